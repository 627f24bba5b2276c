theorem dX7_addTell_7 : decode cX7_addTell 7 = .ok (.aload_n 1, 1) := by decide +kernel
theorem dX7_addTell_8 : decode cX7_addTell 8 = .ok (.getfield 103, 3) := by decide +kernel
theorem dX7_addTell_11 : decode cX7_addTell 11 = .ok (.lload_n 2, 1) := by decide +kernel
theorem dX7_addTell_12 : decode cX7_addTell 12 = .ok (.aload_n 1, 1) := by decide +kernel
theorem dX7_addTell_13 : decode cX7_addTell 13 = .ok (.invokevirtual 185, 3) := by decide +kernel
theorem dX7_addTell_16 : decode cX7_addTell 16 = .ok (.invokevirtual 263, 3) := by decide +kernel
theorem dX7_addTell_19 : decode cX7_addTell 19 = .ok (.iconst 0, 1) := by decide +kernel
theorem dX7_addTell_20 : decode cX7_addTell 20 = .ok (.ireturn, 1) := by decide +kernel
theorem dX7_failWith_0 : decode cX7_failWith 0 = .ok (.aload_n 0, 1) := by decide +kernel
theorem dX7_failWith_1 : decode cX7_failWith 1 = .ok (.lload_n 1, 1) := by decide +kernel
theorem dX7_failWith_2 : decode cX7_failWith 2 = .ok (.putfield 51, 3) := by decide +kernel
theorem dX7_failWith_5 : decode cX7_failWith 5 = .ok (.iconst 5, 1) := by decide +kernel
theorem dX7_failWith_6 : decode cX7_failWith 6 = .ok (.ireturn, 1) := by decide +kernel
theorem dX7_pushFunds_0 : decode cX7_pushFunds 0 = .ok (.aload_n 0, 1) := by decide +kernel
theorem dX7_pushFunds_1 : decode cX7_pushFunds 1 = .ok (.getfield 12, 3) := by decide +kernel
theorem dX7_pushFunds_4 : decode cX7_pushFunds 4 = .ok (.lload_n 2, 1) := by decide +kernel
theorem dX7_pushFunds_5 : decode cX7_pushFunds 5 = .ok (.invokevirtual 256, 3) := by decide +kernel
theorem dX7_pushFunds_8 : decode cX7_pushFunds 8 = .ok (.ifCond .ne 5, 3) := by decide +kernel
theorem dX7_pushFunds_11 : decode cX7_pushFunds 11 = .ok (.iconst 1, 1) := by decide +kernel
theorem dX7_pushFunds_12 : decode cX7_pushFunds 12 = .ok (.ireturn, 1) := by decide +kernel
theorem dX7_pushFunds_13 : decode cX7_pushFunds 13 = .ok (.aload_n 1, 1) := by decide +kernel
theorem dX7_pushFunds_14 : decode cX7_pushFunds 14 = .ok (.aload_n 0, 1) := by decide +kernel
theorem dX7_pushFunds_15 : decode cX7_pushFunds 15 = .ok (.getfield 18, 3) := by decide +kernel
theorem dX7_pushFunds_18 : decode cX7_pushFunds 18 = .ok (.lload_n 2, 1) := by decide +kernel
theorem dX7_pushFunds_19 : decode cX7_pushFunds 19 = .ok (.l2i, 1) := by decide +kernel
theorem dX7_pushFunds_20 : decode cX7_pushFunds 20 = .ok (.invokestatic 260, 3) := by decide +kernel
theorem dX7_pushFunds_23 : decode cX7_pushFunds 23 = .ok (.laload, 1) := by decide +kernel
theorem dX7_pushFunds_24 : decode cX7_pushFunds 24 = .ok (.invokevirtual 192, 3) := by decide +kernel
theorem dX7_pushFunds_27 : decode cX7_pushFunds 27 = .ok (.ireturn, 1) := by decide +kernel
theorem dX8_init_0 : decode cX8_init 0 = .ok (.aload_n 0, 1) := by decide +kernel
theorem dX8_init_1 : decode cX8_init 1 = .ok (.invokespecial 3, 3) := by decide +kernel
theorem dX8_init_4 : decode cX8_init 4 = .ok (.aload_n 0, 1) := by decide +kernel
theorem dX8_init_5 : decode cX8_init 5 = .ok (.new 9, 3) := by decide +kernel
theorem dX8_init_8 : decode cX8_init 8 = .ok (.dup, 1) := by decide +kernel
theorem dX8_init_9 : decode cX8_init 9 = .ok (.invokespecial 11, 3) := by decide +kernel
theorem dX8_init_12 : decode cX8_init 12 = .ok (.putfield 12, 3) := by decide +kernel
theorem dX8_init_15 : decode cX8_init 15 = .ok (.aload_n 0, 1) := by decide +kernel
theorem dX8_init_16 : decode cX8_init 16 = .ok (.aload_n 0, 1) := by decide +kernel
theorem dX8_init_17 : decode cX8_init 17 = .ok (.getfield 12, 3) := by decide +kernel
theorem dX8_init_20 : decode cX8_init 20 = .ok (.getfield 16, 3) := by decide +kernel
theorem dX8_init_23 : decode cX8_init 23 = .ok (.putfield 20, 3) := by decide +kernel
theorem dX8_init_26 : decode cX8_init 26 = .ok (.aload_n 0, 1) := by decide +kernel
theorem dX8_init_27 : decode cX8_init 27 = .ok (.bipush 54, 2) := by decide +kernel
theorem dX8_init_29 : decode cX8_init 29 = .ok (.newarray .long, 2) := by decide +kernel
theorem dX8_init_31 : decode cX8_init 31 = .ok (.putfield 21, 3) := by decide +kernel
theorem dX8_init_34 : decode cX8_init 34 = .ok (.aload_n 0, 1) := by decide +kernel
theorem dX8_init_35 : decode cX8_init 35 = .ok (.bipush 8, 2) := by decide +kernel
theorem dX8_init_37 : decode cX8_init 37 = .ok (.anewarray 25, 3) := by decide +kernel
theorem dX8_init_40 : decode cX8_init 40 = .ok (.putfield 27, 3) := by decide +kernel
theorem dX8_init_43 : decode cX8_init 43 = .ok (.aload_n 0, 1) := by decide +kernel
theorem dX8_init_44 : decode cX8_init 44 = .ok (.new 31, 3) := by decide +kernel
theorem dX8_init_47 : decode cX8_init 47 = .ok (.dup, 1) := by decide +kernel
theorem dX8_init_48 : decode cX8_init 48 = .ok (.invokespecial 33, 3) := by decide +kernel
theorem dX8_init_51 : decode cX8_init 51 = .ok (.putfield 34, 3) := by decide +kernel
theorem dX8_init_54 : decode cX8_init 54 = .ok (.aload_n 0, 1) := by decide +kernel
theorem dX8_init_55 : decode cX8_init 55 = .ok (.iconst 0, 1) := by decide +kernel
theorem dX8_init_56 : decode cX8_init 56 = .ok (.putfield 38, 3) := by decide +kernel
theorem dX8_init_59 : decode cX8_init 59 = .ok (.aload_n 0, 1) := by decide +kernel
theorem dX8_init_60 : decode cX8_init 60 = .ok (.iconst 0, 1) := by decide +kernel
theorem dX8_init_61 : decode cX8_init 61 = .ok (.putfield 42, 3) := by decide +kernel
theorem dX8_init_64 : decode cX8_init 64 = .ok (.iconst 0, 1) := by decide +kernel
theorem dX8_init_65 : decode cX8_init 65 = .ok (.istore_n 1, 1) := by decide +kernel
theorem dX8_init_66 : decode cX8_init 66 = .ok (.iload_n 1, 1) := by decide +kernel
theorem dX8_init_67 : decode cX8_init 67 = .ok (.bipush 8, 2) := by decide +kernel
theorem dX8_init_69 : decode cX8_init 69 = .ok (.if_icmp .ge 22, 3) := by decide +kernel
theorem dX8_init_72 : decode cX8_init 72 = .ok (.aload_n 0, 1) := by decide +kernel
theorem dX8_init_73 : decode cX8_init 73 = .ok (.getfield 27, 3) := by decide +kernel
theorem dX8_init_76 : decode cX8_init 76 = .ok (.iload_n 1, 1) := by decide +kernel
theorem dX8_init_77 : decode cX8_init 77 = .ok (.new 25, 3) := by decide +kernel
theorem dX8_init_80 : decode cX8_init 80 = .ok (.dup, 1) := by decide +kernel
theorem dX8_init_81 : decode cX8_init 81 = .ok (.invokespecial 45, 3) := by decide +kernel
theorem dX8_init_84 : decode cX8_init 84 = .ok (.aastore, 1) := by decide +kernel
theorem dX8_init_85 : decode cX8_init 85 = .ok (.iinc 1 1, 3) := by decide +kernel
theorem dX8_init_88 : decode cX8_init 88 = .ok (.goto (-22), 3) := by decide +kernel
theorem dX8_init_91 : decode cX8_init 91 = .ok (.return_, 1) := by decide +kernel
theorem dX8_program_0 : decode cX8_program 0 = .ok (.aload_n 0, 1) := by decide +kernel
theorem dX8_program_1 : decode cX8_program 1 = .ok (.getfield 20, 3) := by decide +kernel
theorem dX8_program_4 : decode cX8_program 4 = .ok (.getfield 46, 3) := by decide +kernel
theorem dX8_program_7 : decode cX8_program 7 = .ok (.bipush 8, 2) := by decide +kernel
theorem dX8_program_9 : decode cX8_program 9 = .ok (.if_icmp .lt 6, 3) := by decide +kernel
theorem dX8_program_12 : decode cX8_program 12 = .ok (.bipush (-4), 2) := by decide +kernel
theorem dX8_program_14 : decode cX8_program 14 = .ok (.ireturn, 1) := by decide +kernel
theorem dX8_program_15 : decode cX8_program 15 = .ok (.aload_n 0, 1) := by decide +kernel
theorem dX8_program_16 : decode cX8_program 16 = .ok (.getfield 20, 3) := by decide +kernel
theorem dX8_program_19 : decode cX8_program 19 = .ok (.dup, 1) := by decide +kernel
theorem dX8_program_20 : decode cX8_program 20 = .ok (.getfield 46, 3) := by decide +kernel
theorem dX8_program_23 : decode cX8_program 23 = .ok (.iconst 1, 1) := by decide +kernel
theorem dX8_program_24 : decode cX8_program 24 = .ok (.iadd, 1) := by decide +kernel
theorem dX8_program_25 : decode cX8_program 25 = .ok (.putfield 46, 3) := by decide +kernel
theorem dX8_program_28 : decode cX8_program 28 = .ok (.aload_n 0, 1) := by decide +kernel
theorem dX8_program_29 : decode cX8_program 29 = .ok (.getfield 20, 3) := by decide +kernel
theorem dX8_program_32 : decode cX8_program 32 = .ok (.getfield 46, 3) := by decide +kernel
theorem dX8_program_35 : decode cX8_program 35 = .ok (.iconst 1, 1) := by decide +kernel
theorem dX8_program_36 : decode cX8_program 36 = .ok (.isub, 1) := by decide +kernel
theorem dX8_program_37 : decode cX8_program 37 = .ok (.ireturn, 1) := by decide +kernel
theorem dX8_op_0 : decode cX8_op 0 = .ok (.aload_n 0, 1) := by decide +kernel
theorem dX8_op_1 : decode cX8_op 1 = .ok (.getfield 20, 3) := by decide +kernel
theorem dX8_op_4 : decode cX8_op 4 = .ok (.iload_n 1, 1) := by decide +kernel
theorem dX8_op_5 : decode cX8_op 5 = .ok (.invokevirtual 51, 3) := by decide +kernel
theorem dX8_op_8 : decode cX8_op 8 = .ok (.ifCond .ne 5, 3) := by decide +kernel
theorem dX8_op_11 : decode cX8_op 11 = .ok (.iconst (-1), 1) := by decide +kernel
theorem dX8_op_12 : decode cX8_op 12 = .ok (.ireturn, 1) := by decide +kernel
theorem dX8_op_13 : decode cX8_op 13 = .ok (.iload_n 2, 1) := by decide +kernel
theorem dX8_op_14 : decode cX8_op 14 = .ok (.i2l, 1) := by decide +kernel
theorem dX8_op_15 : decode cX8_op 15 = .ok (.bipush 16, 2) := by decide +kernel
theorem dX8_op_17 : decode cX8_op 17 = .ok (.invokestatic 55, 3) := by decide +kernel
theorem dX8_op_20 : decode cX8_op 20 = .ok (.ifCond .ne 6, 3) := by decide +kernel
theorem dX8_op_23 : decode cX8_op 23 = .ok (.bipush (-2), 2) := by decide +kernel
theorem dX8_op_25 : decode cX8_op 25 = .ok (.ireturn, 1) := by decide +kernel
theorem dX8_op_26 : decode cX8_op 26 = .ok (.aload_n 0, 1) := by decide +kernel
theorem dX8_op_27 : decode cX8_op 27 = .ok (.getfield 38, 3) := by decide +kernel
theorem dX8_op_30 : decode cX8_op 30 = .ok (.ifCond .le 6, 3) := by decide +kernel
theorem dX8_op_33 : decode cX8_op 33 = .ok (.bipush (-3), 2) := by decide +kernel
theorem dX8_op_35 : decode cX8_op 35 = .ok (.ireturn, 1) := by decide +kernel
theorem dX8_op_36 : decode cX8_op 36 = .ok (.aload_n 0, 1) := by decide +kernel
theorem dX8_op_37 : decode cX8_op 37 = .ok (.getfield 20, 3) := by decide +kernel
theorem dX8_op_40 : decode cX8_op 40 = .ok (.getfield 59, 3) := by decide +kernel
theorem dX8_op_43 : decode cX8_op 43 = .ok (.iload_n 1, 1) := by decide +kernel
theorem dX8_op_44 : decode cX8_op 44 = .ok (.aaload, 1) := by decide +kernel
theorem dX8_op_45 : decode cX8_op 45 = .ok (.astore 6, 2) := by decide +kernel
theorem dX8_op_47 : decode cX8_op 47 = .ok (.aload 6, 2) := by decide +kernel
theorem dX8_op_49 : decode cX8_op 49 = .ok (.iload_n 2, 1) := by decide +kernel
theorem dX8_op_50 : decode cX8_op 50 = .ok (.lload_n 3, 1) := by decide +kernel
theorem dX8_op_51 : decode cX8_op 51 = .ok (.iload 5, 2) := by decide +kernel
theorem dX8_op_53 : decode cX8_op 53 = .ok (.invokevirtual 63, 3) := by decide +kernel
theorem dX8_op_56 : decode cX8_op 56 = .ok (.ifCond .eq 11, 3) := by decide +kernel
theorem dX8_op_59 : decode cX8_op 59 = .ok (.aload 6, 2) := by decide +kernel
theorem dX8_op_61 : decode cX8_op 61 = .ok (.getfield 69, 3) := by decide +kernel
theorem dX8_op_64 : decode cX8_op 64 = .ok (.goto 5, 3) := by decide +kernel
theorem dX8_op_67 : decode cX8_op 67 = .ok (.bipush (-4), 2) := by decide +kernel
theorem dX8_op_69 : decode cX8_op 69 = .ok (.ireturn, 1) := by decide +kernel
theorem dX8_account_0 : decode cX8_account 0 = .ok (.aload_n 0, 1) := by decide +kernel
theorem dX8_account_1 : decode cX8_account 1 = .ok (.getfield 38, 3) := by decide +kernel
theorem dX8_account_4 : decode cX8_account 4 = .ok (.ifCond .le 6, 3) := by decide +kernel
theorem dX8_account_7 : decode cX8_account 7 = .ok (.bipush (-3), 2) := by decide +kernel
theorem dX8_account_9 : decode cX8_account 9 = .ok (.ireturn, 1) := by decide +kernel
theorem dX8_account_10 : decode cX8_account 10 = .ok (.aload_n 0, 1) := by decide +kernel
theorem dX8_account_11 : decode cX8_account 11 = .ok (.getfield 20, 3) := by decide +kernel
theorem dX8_account_14 : decode cX8_account 14 = .ok (.getfield 72, 3) := by decide +kernel
theorem dX8_account_17 : decode cX8_account 17 = .ok (.bipush 6, 2) := by decide +kernel
theorem dX8_account_19 : decode cX8_account 19 = .ok (.if_icmp .lt 6, 3) := by decide +kernel
theorem dX8_account_22 : decode cX8_account 22 = .ok (.bipush (-4), 2) := by decide +kernel
theorem dX8_account_24 : decode cX8_account 24 = .ok (.ireturn, 1) := by decide +kernel
theorem dX8_account_25 : decode cX8_account 25 = .ok (.aload_n 0, 1) := by decide +kernel
theorem dX8_account_26 : decode cX8_account 26 = .ok (.getfield 20, 3) := by decide +kernel
theorem dX8_account_29 : decode cX8_account 29 = .ok (.dup, 1) := by decide +kernel
theorem dX8_account_30 : decode cX8_account 30 = .ok (.getfield 72, 3) := by decide +kernel
theorem dX8_account_33 : decode cX8_account 33 = .ok (.iconst 1, 1) := by decide +kernel
theorem dX8_account_34 : decode cX8_account 34 = .ok (.iadd, 1) := by decide +kernel
theorem dX8_account_35 : decode cX8_account 35 = .ok (.putfield 72, 3) := by decide +kernel
theorem dX8_account_38 : decode cX8_account 38 = .ok (.aload_n 0, 1) := by decide +kernel
theorem dX8_account_39 : decode cX8_account 39 = .ok (.getfield 20, 3) := by decide +kernel
theorem dX8_account_42 : decode cX8_account 42 = .ok (.getfield 72, 3) := by decide +kernel
theorem dX8_account_45 : decode cX8_account 45 = .ok (.iconst 1, 1) := by decide +kernel
theorem dX8_account_46 : decode cX8_account 46 = .ok (.isub, 1) := by decide +kernel
theorem dX8_account_47 : decode cX8_account 47 = .ok (.ireturn, 1) := by decide +kernel
theorem dX8_member_0 : decode cX8_member 0 = .ok (.aload_n 0, 1) := by decide +kernel
theorem dX8_member_1 : decode cX8_member 1 = .ok (.getfield 20, 3) := by decide +kernel
theorem dX8_member_4 : decode cX8_member 4 = .ok (.iload_n 1, 1) := by decide +kernel
theorem dX8_member_5 : decode cX8_member 5 = .ok (.i2l, 1) := by decide +kernel
theorem dX8_member_6 : decode cX8_member 6 = .ok (.invokevirtual 75, 3) := by decide +kernel
theorem dX8_member_9 : decode cX8_member 9 = .ok (.ifCond .ne 5, 3) := by decide +kernel
theorem dX8_member_12 : decode cX8_member 12 = .ok (.iconst (-1), 1) := by decide +kernel
theorem dX8_member_13 : decode cX8_member 13 = .ok (.ireturn, 1) := by decide +kernel
theorem dX8_member_14 : decode cX8_member 14 = .ok (.iload_n 3, 1) := by decide +kernel
theorem dX8_member_15 : decode cX8_member 15 = .ok (.iconst (-1), 1) := by decide +kernel
theorem dX8_member_16 : decode cX8_member 16 = .ok (.if_icmp .eq 16, 3) := by decide +kernel
theorem dX8_member_19 : decode cX8_member 19 = .ok (.aload_n 0, 1) := by decide +kernel
theorem dX8_member_20 : decode cX8_member 20 = .ok (.getfield 20, 3) := by decide +kernel
theorem dX8_member_23 : decode cX8_member 23 = .ok (.iload_n 3, 1) := by decide +kernel
theorem dX8_member_24 : decode cX8_member 24 = .ok (.invokevirtual 51, 3) := by decide +kernel
theorem dX8_member_27 : decode cX8_member 27 = .ok (.ifCond .ne 5, 3) := by decide +kernel
theorem dX8_member_30 : decode cX8_member 30 = .ok (.iconst (-1), 1) := by decide +kernel
theorem dX8_member_31 : decode cX8_member 31 = .ok (.ireturn, 1) := by decide +kernel
theorem dX8_member_32 : decode cX8_member 32 = .ok (.iload_n 2, 1) := by decide +kernel
theorem dX8_member_33 : decode cX8_member 33 = .ok (.i2l, 1) := by decide +kernel
theorem dX8_member_34 : decode cX8_member 34 = .ok (.iconst 4, 1) := by decide +kernel
theorem dX8_member_35 : decode cX8_member 35 = .ok (.invokestatic 55, 3) := by decide +kernel
theorem dX8_member_38 : decode cX8_member 38 = .ok (.ifCond .ne 6, 3) := by decide +kernel
theorem dX8_member_41 : decode cX8_member 41 = .ok (.bipush (-2), 2) := by decide +kernel
theorem dX8_member_43 : decode cX8_member 43 = .ok (.ireturn, 1) := by decide +kernel
theorem dX8_member_44 : decode cX8_member 44 = .ok (.aload_n 0, 1) := by decide +kernel
theorem dX8_member_45 : decode cX8_member 45 = .ok (.getfield 38, 3) := by decide +kernel
theorem dX8_member_48 : decode cX8_member 48 = .ok (.ifCond .le 6, 3) := by decide +kernel
theorem dX8_member_51 : decode cX8_member 51 = .ok (.bipush (-3), 2) := by decide +kernel
theorem dX8_member_53 : decode cX8_member 53 = .ok (.ireturn, 1) := by decide +kernel
theorem dX8_member_54 : decode cX8_member 54 = .ok (.aload_n 0, 1) := by decide +kernel
theorem dX8_member_55 : decode cX8_member 55 = .ok (.getfield 20, 3) := by decide +kernel
theorem dX8_member_58 : decode cX8_member 58 = .ok (.getfield 79, 3) := by decide +kernel
theorem dX8_member_61 : decode cX8_member 61 = .ok (.iload_n 1, 1) := by decide +kernel
theorem dX8_member_62 : decode cX8_member 62 = .ok (.iconst 4, 1) := by decide +kernel
theorem dX8_member_63 : decode cX8_member 63 = .ok (.imul, 1) := by decide +kernel
theorem dX8_member_64 : decode cX8_member 64 = .ok (.iload_n 2, 1) := by decide +kernel
theorem dX8_member_65 : decode cX8_member 65 = .ok (.iadd, 1) := by decide +kernel
theorem dX8_member_66 : decode cX8_member 66 = .ok (.iload_n 3, 1) := by decide +kernel
theorem dX8_member_67 : decode cX8_member 67 = .ok (.iastore, 1) := by decide +kernel
theorem dX8_member_68 : decode cX8_member 68 = .ok (.iconst 1, 1) := by decide +kernel
theorem dX8_member_69 : decode cX8_member 69 = .ok (.ireturn, 1) := by decide +kernel
theorem dX8_price_0 : decode cX8_price 0 = .ok (.iload_n 1, 1) := by decide +kernel
theorem dX8_price_1 : decode cX8_price 1 = .ok (.i2l, 1) := by decide +kernel
theorem dX8_price_2 : decode cX8_price 2 = .ok (.bipush 16, 2) := by decide +kernel
theorem dX8_price_4 : decode cX8_price 4 = .ok (.invokestatic 55, 3) := by decide +kernel
theorem dX8_price_7 : decode cX8_price 7 = .ok (.ifCond .eq 14, 3) := by decide +kernel
theorem dX8_price_10 : decode cX8_price 10 = .ok (.iload_n 2, 1) := by decide +kernel
theorem dX8_price_11 : decode cX8_price 11 = .ok (.iconst 1, 1) := by decide +kernel
theorem dX8_price_12 : decode cX8_price 12 = .ok (.if_icmp .lt 9, 3) := by decide +kernel
theorem dX8_price_15 : decode cX8_price 15 = .ok (.iload_n 2, 1) := by decide +kernel
theorem dX8_price_16 : decode cX8_price 16 = .ok (.bipush 50, 2) := by decide +kernel
theorem dX8_price_18 : decode cX8_price 18 = .ok (.if_icmp .le 6, 3) := by decide +kernel
theorem dX8_price_21 : decode cX8_price 21 = .ok (.bipush (-2), 2) := by decide +kernel
theorem dX8_price_23 : decode cX8_price 23 = .ok (.ireturn, 1) := by decide +kernel
theorem dX8_price_24 : decode cX8_price 24 = .ok (.aload_n 0, 1) := by decide +kernel
theorem dX8_price_25 : decode cX8_price 25 = .ok (.getfield 38, 3) := by decide +kernel
theorem dX8_price_28 : decode cX8_price 28 = .ok (.ifCond .le 6, 3) := by decide +kernel
theorem dX8_price_31 : decode cX8_price 31 = .ok (.bipush (-3), 2) := by decide +kernel
theorem dX8_price_33 : decode cX8_price 33 = .ok (.ireturn, 1) := by decide +kernel
theorem dX8_price_34 : decode cX8_price 34 = .ok (.aload_n 0, 1) := by decide +kernel
theorem dX8_price_35 : decode cX8_price 35 = .ok (.getfield 20, 3) := by decide +kernel
theorem dX8_price_38 : decode cX8_price 38 = .ok (.getfield 83, 3) := by decide +kernel
theorem dX8_price_41 : decode cX8_price 41 = .ok (.iload_n 1, 1) := by decide +kernel
theorem dX8_price_42 : decode cX8_price 42 = .ok (.iaload, 1) := by decide +kernel
theorem dX8_price_43 : decode cX8_price 43 = .ok (.istore_n 3, 1) := by decide +kernel
theorem dX8_price_44 : decode cX8_price 44 = .ok (.aload_n 0, 1) := by decide +kernel
theorem dX8_price_45 : decode cX8_price 45 = .ok (.getfield 20, 3) := by decide +kernel
theorem dX8_price_48 : decode cX8_price 48 = .ok (.getfield 83, 3) := by decide +kernel
theorem dX8_price_51 : decode cX8_price 51 = .ok (.iload_n 1, 1) := by decide +kernel
theorem dX8_price_52 : decode cX8_price 52 = .ok (.iload_n 2, 1) := by decide +kernel
theorem dX8_price_53 : decode cX8_price 53 = .ok (.iastore, 1) := by decide +kernel
theorem dX8_price_54 : decode cX8_price 54 = .ok (.iload_n 3, 1) := by decide +kernel
theorem dX8_price_55 : decode cX8_price 55 = .ok (.ireturn, 1) := by decide +kernel
theorem dX8_fund_0 : decode cX8_fund 0 = .ok (.aload_n 0, 1) := by decide +kernel
theorem dX8_fund_1 : decode cX8_fund 1 = .ok (.getfield 20, 3) := by decide +kernel
theorem dX8_fund_4 : decode cX8_fund 4 = .ok (.iload_n 1, 1) := by decide +kernel
theorem dX8_fund_5 : decode cX8_fund 5 = .ok (.i2l, 1) := by decide +kernel
theorem dX8_fund_6 : decode cX8_fund 6 = .ok (.invokevirtual 75, 3) := by decide +kernel
theorem dX8_fund_9 : decode cX8_fund 9 = .ok (.ifCond .ne 7, 3) := by decide +kernel
theorem dX8_fund_12 : decode cX8_fund 12 = .ok (.ldc2_w 86, 3) := by decide +kernel
theorem dX8_fund_15 : decode cX8_fund 15 = .ok (.lreturn, 1) := by decide +kernel
theorem dX8_fund_16 : decode cX8_fund 16 = .ok (.lload_n 2, 1) := by decide +kernel
theorem dX8_fund_17 : decode cX8_fund 17 = .ok (.lconst 0, 1) := by decide +kernel
theorem dX8_fund_18 : decode cX8_fund 18 = .ok (.lcmp, 1) := by decide +kernel
theorem dX8_fund_19 : decode cX8_fund 19 = .ok (.ifCond .lt 11, 3) := by decide +kernel
theorem dX8_fund_22 : decode cX8_fund 22 = .ok (.lload_n 2, 1) := by decide +kernel
theorem dX8_fund_23 : decode cX8_fund 23 = .ok (.ldc2_w 88, 3) := by decide +kernel
theorem dX8_fund_26 : decode cX8_fund 26 = .ok (.lcmp, 1) := by decide +kernel
theorem dX8_fund_27 : decode cX8_fund 27 = .ok (.ifCond .le 7, 3) := by decide +kernel
theorem dX8_fund_30 : decode cX8_fund 30 = .ok (.ldc2_w 90, 3) := by decide +kernel
theorem dX8_fund_33 : decode cX8_fund 33 = .ok (.lreturn, 1) := by decide +kernel
theorem dX8_fund_34 : decode cX8_fund 34 = .ok (.aload_n 0, 1) := by decide +kernel
theorem dX8_fund_35 : decode cX8_fund 35 = .ok (.getfield 21, 3) := by decide +kernel
theorem dX8_fund_38 : decode cX8_fund 38 = .ok (.iload_n 1, 1) := by decide +kernel
theorem dX8_fund_39 : decode cX8_fund 39 = .ok (.invokestatic 92, 3) := by decide +kernel
theorem dX8_fund_42 : decode cX8_fund 42 = .ok (.laload, 1) := by decide +kernel
theorem dX8_fund_43 : decode cX8_fund 43 = .ok (.lstore 4, 2) := by decide +kernel
theorem dX8_fund_45 : decode cX8_fund 45 = .ok (.aload_n 0, 1) := by decide +kernel
theorem dX8_fund_46 : decode cX8_fund 46 = .ok (.getfield 21, 3) := by decide +kernel
theorem dX8_fund_49 : decode cX8_fund 49 = .ok (.iload_n 1, 1) := by decide +kernel
theorem dX8_fund_50 : decode cX8_fund 50 = .ok (.invokestatic 92, 3) := by decide +kernel
theorem dX8_fund_53 : decode cX8_fund 53 = .ok (.lload_n 2, 1) := by decide +kernel
theorem dX8_fund_54 : decode cX8_fund 54 = .ok (.lastore, 1) := by decide +kernel
theorem dX8_fund_55 : decode cX8_fund 55 = .ok (.lload 4, 2) := by decide +kernel
theorem dX8_fund_57 : decode cX8_fund 57 = .ok (.lreturn, 1) := by decide +kernel
theorem dX8_cell_0 : decode cX8_cell 0 = .ok (.aload_n 0, 1) := by decide +kernel
theorem dX8_cell_1 : decode cX8_cell 1 = .ok (.getfield 20, 3) := by decide +kernel
theorem dX8_cell_4 : decode cX8_cell 4 = .ok (.iload_n 1, 1) := by decide +kernel
theorem dX8_cell_5 : decode cX8_cell 5 = .ok (.i2l, 1) := by decide +kernel
theorem dX8_cell_6 : decode cX8_cell 6 = .ok (.invokevirtual 75, 3) := by decide +kernel
theorem dX8_cell_9 : decode cX8_cell 9 = .ok (.ifCond .eq 13, 3) := by decide +kernel
theorem dX8_cell_12 : decode cX8_cell 12 = .ok (.iload_n 2, 1) := by decide +kernel
theorem dX8_cell_13 : decode cX8_cell 13 = .ok (.i2l, 1) := by decide +kernel
theorem dX8_cell_14 : decode cX8_cell 14 = .ok (.bipush 8, 2) := by decide +kernel
theorem dX8_cell_16 : decode cX8_cell 16 = .ok (.invokestatic 55, 3) := by decide +kernel
theorem dX8_cell_19 : decode cX8_cell 19 = .ok (.ifCond .ne 5, 3) := by decide +kernel
theorem dX8_cell_22 : decode cX8_cell 22 = .ok (.lconst 0, 1) := by decide +kernel
theorem dX8_cell_23 : decode cX8_cell 23 = .ok (.lreturn, 1) := by decide +kernel
theorem dX8_cell_24 : decode cX8_cell 24 = .ok (.aload_n 0, 1) := by decide +kernel
theorem dX8_cell_25 : decode cX8_cell 25 = .ok (.getfield 21, 3) := by decide +kernel
theorem dX8_cell_28 : decode cX8_cell 28 = .ok (.iload_n 1, 1) := by decide +kernel
theorem dX8_cell_29 : decode cX8_cell 29 = .ok (.iload_n 2, 1) := by decide +kernel
theorem dX8_cell_30 : decode cX8_cell 30 = .ok (.invokestatic 96, 3) := by decide +kernel
theorem dX8_cell_33 : decode cX8_cell 33 = .ok (.laload, 1) := by decide +kernel
theorem dX8_cell_34 : decode cX8_cell 34 = .ok (.lreturn, 1) := by decide +kernel
theorem dX8_balance_0 : decode cX8_balance 0 = .ok (.aload_n 0, 1) := by decide +kernel
theorem dX8_balance_1 : decode cX8_balance 1 = .ok (.getfield 20, 3) := by decide +kernel
theorem dX8_balance_4 : decode cX8_balance 4 = .ok (.iload_n 1, 1) := by decide +kernel
theorem dX8_balance_5 : decode cX8_balance 5 = .ok (.i2l, 1) := by decide +kernel
theorem dX8_balance_6 : decode cX8_balance 6 = .ok (.invokevirtual 75, 3) := by decide +kernel
theorem dX8_balance_9 : decode cX8_balance 9 = .ok (.ifCond .ne 7, 3) := by decide +kernel
theorem dX8_balance_12 : decode cX8_balance 12 = .ok (.ldc2_w 86, 3) := by decide +kernel
theorem dX8_balance_15 : decode cX8_balance 15 = .ok (.lreturn, 1) := by decide +kernel
theorem dX8_balance_16 : decode cX8_balance 16 = .ok (.aload_n 0, 1) := by decide +kernel
theorem dX8_balance_17 : decode cX8_balance 17 = .ok (.getfield 21, 3) := by decide +kernel
theorem dX8_balance_20 : decode cX8_balance 20 = .ok (.iload_n 1, 1) := by decide +kernel
theorem dX8_balance_21 : decode cX8_balance 21 = .ok (.invokestatic 92, 3) := by decide +kernel
theorem dX8_balance_24 : decode cX8_balance 24 = .ok (.laload, 1) := by decide +kernel
theorem dX8_balance_25 : decode cX8_balance 25 = .ok (.lreturn, 1) := by decide +kernel
theorem dX8_call_0 : decode cX8_call 0 = .ok (.aload_n 0, 1) := by decide +kernel
theorem dX8_call_1 : decode cX8_call 1 = .ok (.getfield 20, 3) := by decide +kernel
theorem dX8_call_4 : decode cX8_call 4 = .ok (.iload_n 1, 1) := by decide +kernel
theorem dX8_call_5 : decode cX8_call 5 = .ok (.i2l, 1) := by decide +kernel
theorem dX8_call_6 : decode cX8_call 6 = .ok (.invokevirtual 75, 3) := by decide +kernel
theorem dX8_call_9 : decode cX8_call 9 = .ok (.ifCond .ne 5, 3) := by decide +kernel
theorem dX8_call_12 : decode cX8_call 12 = .ok (.iconst (-1), 1) := by decide +kernel
theorem dX8_call_13 : decode cX8_call 13 = .ok (.ireturn, 1) := by decide +kernel
theorem dX8_call_14 : decode cX8_call 14 = .ok (.iload_n 2, 1) := by decide +kernel
theorem dX8_call_15 : decode cX8_call 15 = .ok (.i2l, 1) := by decide +kernel
theorem dX8_call_16 : decode cX8_call 16 = .ok (.iconst 4, 1) := by decide +kernel
theorem dX8_call_17 : decode cX8_call 17 = .ok (.invokestatic 55, 3) := by decide +kernel
theorem dX8_call_20 : decode cX8_call 20 = .ok (.ifCond .eq 16, 3) := by decide +kernel
theorem dX8_call_23 : decode cX8_call 23 = .ok (.iload 5, 2) := by decide +kernel
theorem dX8_call_25 : decode cX8_call 25 = .ok (.iconst 1, 1) := by decide +kernel
theorem dX8_call_26 : decode cX8_call 26 = .ok (.if_icmp .lt 10, 3) := by decide +kernel
theorem dX8_call_29 : decode cX8_call 29 = .ok (.iload 5, 2) := by decide +kernel
theorem dX8_call_31 : decode cX8_call 31 = .ok (.bipush 100, 2) := by decide +kernel
theorem dX8_call_33 : decode cX8_call 33 = .ok (.if_icmp .le 6, 3) := by decide +kernel
theorem dX8_call_36 : decode cX8_call 36 = .ok (.bipush (-2), 2) := by decide +kernel
theorem dX8_call_38 : decode cX8_call 38 = .ok (.ireturn, 1) := by decide +kernel
theorem dX8_call_39 : decode cX8_call 39 = .ok (.aload_n 0, 1) := by decide +kernel
theorem dX8_call_40 : decode cX8_call 40 = .ok (.getfield 20, 3) := by decide +kernel
theorem dX8_call_43 : decode cX8_call 43 = .ok (.iload_n 1, 1) := by decide +kernel
theorem dX8_call_44 : decode cX8_call 44 = .ok (.i2l, 1) := by decide +kernel
theorem dX8_call_45 : decode cX8_call 45 = .ok (.iload_n 2, 1) := by decide +kernel
theorem dX8_call_46 : decode cX8_call 46 = .ok (.invokevirtual 100, 3) := by decide +kernel
theorem dX8_call_49 : decode cX8_call 49 = .ok (.iconst (-1), 1) := by decide +kernel
theorem dX8_call_50 : decode cX8_call 50 = .ok (.if_icmp .ne 6, 3) := by decide +kernel
theorem dX8_call_53 : decode cX8_call 53 = .ok (.bipush (-3), 2) := by decide +kernel
theorem dX8_call_55 : decode cX8_call 55 = .ok (.ireturn, 1) := by decide +kernel
theorem dX8_call_56 : decode cX8_call 56 = .ok (.aload_n 0, 1) := by decide +kernel
theorem dX8_call_57 : decode cX8_call 57 = .ok (.getfield 38, 3) := by decide +kernel
theorem dX8_call_60 : decode cX8_call 60 = .ok (.bipush 8, 2) := by decide +kernel
theorem dX8_call_62 : decode cX8_call 62 = .ok (.if_icmp .ge 13, 3) := by decide +kernel
theorem dX8_call_65 : decode cX8_call 65 = .ok (.aload_n 0, 1) := by decide +kernel
theorem dX8_call_66 : decode cX8_call 66 = .ok (.getfield 42, 3) := by decide +kernel
theorem dX8_call_69 : decode cX8_call 69 = .ok (.sipush 150, 3) := by decide +kernel
theorem dX8_call_72 : decode cX8_call 72 = .ok (.if_icmp .lt 6, 3) := by decide +kernel
theorem dX8_call_75 : decode cX8_call 75 = .ok (.bipush (-4), 2) := by decide +kernel
theorem dX8_call_77 : decode cX8_call 77 = .ok (.ireturn, 1) := by decide +kernel
theorem dX8_call_78 : decode cX8_call 78 = .ok (.aload_n 0, 1) := by decide +kernel
theorem dX8_call_79 : decode cX8_call 79 = .ok (.getfield 27, 3) := by decide +kernel
theorem dX8_call_82 : decode cX8_call 82 = .ok (.aload_n 0, 1) := by decide +kernel
theorem dX8_call_83 : decode cX8_call 83 = .ok (.getfield 38, 3) := by decide +kernel
theorem dX8_call_86 : decode cX8_call 86 = .ok (.aaload, 1) := by decide +kernel
theorem dX8_call_87 : decode cX8_call 87 = .ok (.astore 6, 2) := by decide +kernel
theorem dX8_call_89 : decode cX8_call 89 = .ok (.aload 6, 2) := by decide +kernel
theorem dX8_call_91 : decode cX8_call 91 = .ok (.iload_n 1, 1) := by decide +kernel
theorem dX8_call_92 : decode cX8_call 92 = .ok (.iload_n 2, 1) := by decide +kernel
theorem dX8_call_93 : decode cX8_call 93 = .ok (.lload_n 3, 1) := by decide +kernel
theorem dX8_call_94 : decode cX8_call 94 = .ok (.iload 5, 2) := by decide +kernel
theorem dX8_call_96 : decode cX8_call 96 = .ok (.aload_n 0, 1) := by decide +kernel
theorem dX8_call_97 : decode cX8_call 97 = .ok (.getfield 21, 3) := by decide +kernel
theorem dX8_call_100 : decode cX8_call 100 = .ok (.invokevirtual 104, 3) := by decide +kernel
theorem dX8_call_103 : decode cX8_call 103 = .ok (.aload_n 0, 1) := by decide +kernel
theorem dX8_call_104 : decode cX8_call 104 = .ok (.getfield 12, 3) := by decide +kernel
theorem dX8_call_107 : decode cX8_call 107 = .ok (.aload 6, 2) := by decide +kernel
theorem dX8_call_109 : decode cX8_call 109 = .ok (.iconst (-1), 1) := by decide +kernel
theorem dX8_call_110 : decode cX8_call 110 = .ok (.invokevirtual 108, 3) := by decide +kernel
theorem dX8_call_113 : decode cX8_call 113 = .ok (.aload 6, 2) := by decide +kernel
theorem dX8_call_115 : decode cX8_call 115 = .ok (.getfield 112, 3) := by decide +kernel
theorem dX8_call_118 : decode cX8_call 118 = .ok (.ifCond .ne 21, 3) := by decide +kernel
theorem dX8_call_121 : decode cX8_call 121 = .ok (.aload_n 0, 1) := by decide +kernel
theorem dX8_call_122 : decode cX8_call 122 = .ok (.getfield 12, 3) := by decide +kernel
theorem dX8_call_125 : decode cX8_call 125 = .ok (.getfield 115, 3) := by decide +kernel
theorem dX8_call_128 : decode cX8_call 128 = .ok (.iconst 0, 1) := by decide +kernel
theorem dX8_call_129 : decode cX8_call 129 = .ok (.aload_n 0, 1) := by decide +kernel
theorem dX8_call_130 : decode cX8_call 130 = .ok (.getfield 21, 3) := by decide +kernel
theorem dX8_call_133 : decode cX8_call 133 = .ok (.iconst 0, 1) := by decide +kernel
theorem dX8_call_134 : decode cX8_call 134 = .ok (.bipush 54, 2) := by decide +kernel
theorem dX8_call_136 : decode cX8_call 136 = .ok (.invokestatic 118, 3) := by decide +kernel
theorem dX8_call_139 : decode cX8_call 139 = .ok (.aload_n 0, 1) := by decide +kernel
theorem dX8_call_140 : decode cX8_call 140 = .ok (.dup, 1) := by decide +kernel
theorem dX8_call_141 : decode cX8_call 141 = .ok (.getfield 42, 3) := by decide +kernel
theorem dX8_call_144 : decode cX8_call 144 = .ok (.iconst 1, 1) := by decide +kernel
theorem dX8_call_145 : decode cX8_call 145 = .ok (.iadd, 1) := by decide +kernel
theorem dX8_call_146 : decode cX8_call 146 = .ok (.putfield 42, 3) := by decide +kernel
theorem dX8_call_149 : decode cX8_call 149 = .ok (.aload_n 0, 1) := by decide +kernel
theorem dX8_call_150 : decode cX8_call 150 = .ok (.dup, 1) := by decide +kernel
theorem dX8_call_151 : decode cX8_call 151 = .ok (.getfield 38, 3) := by decide +kernel
theorem dX8_call_154 : decode cX8_call 154 = .ok (.iconst 1, 1) := by decide +kernel
theorem dX8_call_155 : decode cX8_call 155 = .ok (.iadd, 1) := by decide +kernel
theorem dX8_call_156 : decode cX8_call 156 = .ok (.putfield 38, 3) := by decide +kernel
theorem dX8_call_159 : decode cX8_call 159 = .ok (.aload_n 0, 1) := by decide +kernel
theorem dX8_call_160 : decode cX8_call 160 = .ok (.getfield 38, 3) := by decide +kernel
theorem dX8_call_163 : decode cX8_call 163 = .ok (.iconst 1, 1) := by decide +kernel
theorem dX8_call_164 : decode cX8_call 164 = .ok (.isub, 1) := by decide +kernel
theorem dX8_call_165 : decode cX8_call 165 = .ok (.ireturn, 1) := by decide +kernel
theorem dX8_drop_0 : decode cX8_drop 0 = .ok (.aload_n 0, 1) := by decide +kernel
theorem dX8_drop_1 : decode cX8_drop 1 = .ok (.getfield 38, 3) := by decide +kernel
theorem dX8_drop_4 : decode cX8_drop 4 = .ok (.istore_n 1, 1) := by decide +kernel
theorem dX8_drop_5 : decode cX8_drop 5 = .ok (.aload_n 0, 1) := by decide +kernel
theorem dX8_drop_6 : decode cX8_drop 6 = .ok (.iconst 0, 1) := by decide +kernel
theorem dX8_drop_7 : decode cX8_drop 7 = .ok (.putfield 38, 3) := by decide +kernel
theorem dX8_drop_10 : decode cX8_drop 10 = .ok (.iload_n 1, 1) := by decide +kernel
theorem dX8_drop_11 : decode cX8_drop 11 = .ok (.ireturn, 1) := by decide +kernel
theorem dX8_trace_0 : decode cX8_trace 0 = .ok (.aload_n 0, 1) := by decide +kernel
theorem dX8_trace_1 : decode cX8_trace 1 = .ok (.iload_n 1, 1) := by decide +kernel
theorem dX8_trace_2 : decode cX8_trace 2 = .ok (.invokevirtual 124, 3) := by decide +kernel
theorem dX8_trace_5 : decode cX8_trace 5 = .ok (.ifCond .ne 5, 3) := by decide +kernel
theorem dX8_trace_8 : decode cX8_trace 8 = .ok (.iconst (-1), 1) := by decide +kernel
theorem dX8_trace_9 : decode cX8_trace 9 = .ok (.ireturn, 1) := by decide +kernel
theorem dX8_trace_10 : decode cX8_trace 10 = .ok (.iload_n 2, 1) := by decide +kernel
theorem dX8_trace_11 : decode cX8_trace 11 = .ok (.i2l, 1) := by decide +kernel
theorem dX8_trace_12 : decode cX8_trace 12 = .ok (.bipush 7, 2) := by decide +kernel
theorem dX8_trace_14 : decode cX8_trace 14 = .ok (.invokestatic 55, 3) := by decide +kernel
theorem dX8_trace_17 : decode cX8_trace 17 = .ok (.ifCond .ne 6, 3) := by decide +kernel
theorem dX8_trace_20 : decode cX8_trace 20 = .ok (.bipush (-2), 2) := by decide +kernel
theorem dX8_trace_22 : decode cX8_trace 22 = .ok (.ireturn, 1) := by decide +kernel
theorem dX8_trace_23 : decode cX8_trace 23 = .ok (.aload_n 0, 1) := by decide +kernel
theorem dX8_trace_24 : decode cX8_trace 24 = .ok (.getfield 27, 3) := by decide +kernel
theorem dX8_trace_27 : decode cX8_trace 27 = .ok (.iload_n 1, 1) := by decide +kernel
theorem dX8_trace_28 : decode cX8_trace 28 = .ok (.aaload, 1) := by decide +kernel
theorem dX8_trace_29 : decode cX8_trace 29 = .ok (.iload_n 2, 1) := by decide +kernel
theorem dX8_trace_30 : decode cX8_trace 30 = .ok (.invokevirtual 127, 3) := by decide +kernel
theorem dX8_trace_33 : decode cX8_trace 33 = .ok (.ireturn, 1) := by decide +kernel
theorem dX8_result_0 : decode cX8_result 0 = .ok (.aload_n 0, 1) := by decide +kernel
theorem dX8_result_1 : decode cX8_result 1 = .ok (.iload_n 1, 1) := by decide +kernel
theorem dX8_result_2 : decode cX8_result 2 = .ok (.invokevirtual 124, 3) := by decide +kernel
theorem dX8_result_5 : decode cX8_result 5 = .ok (.ifCond .eq 15, 3) := by decide +kernel
theorem dX8_result_8 : decode cX8_result 8 = .ok (.aload_n 0, 1) := by decide +kernel
theorem dX8_result_9 : decode cX8_result 9 = .ok (.getfield 27, 3) := by decide +kernel
theorem dX8_result_12 : decode cX8_result 12 = .ok (.iload_n 1, 1) := by decide +kernel
theorem dX8_result_13 : decode cX8_result 13 = .ok (.aaload, 1) := by decide +kernel
theorem dX8_result_14 : decode cX8_result 14 = .ok (.getfield 130, 3) := by decide +kernel
theorem dX8_result_17 : decode cX8_result 17 = .ok (.goto 6, 3) := by decide +kernel
theorem dX8_result_20 : decode cX8_result 20 = .ok (.ldc2_w 86, 3) := by decide +kernel
theorem dX8_result_23 : decode cX8_result 23 = .ok (.lreturn, 1) := by decide +kernel
theorem dX8_step_0 : decode cX8_step 0 = .ok (.aload_n 0, 1) := by decide +kernel
theorem dX8_step_1 : decode cX8_step 1 = .ok (.iload_n 1, 1) := by decide +kernel
theorem dX8_step_2 : decode cX8_step 2 = .ok (.iload_n 2, 1) := by decide +kernel
theorem dX8_step_3 : decode cX8_step 3 = .ok (.invokevirtual 134, 3) := by decide +kernel
theorem dX8_step_6 : decode cX8_step 6 = .ok (.ifCond .ne 5, 3) := by decide +kernel
theorem dX8_step_9 : decode cX8_step 9 = .ok (.iconst (-1), 1) := by decide +kernel
theorem dX8_step_10 : decode cX8_step 10 = .ok (.ireturn, 1) := by decide +kernel
theorem dX8_step_11 : decode cX8_step 11 = .ok (.iload_n 3, 1) := by decide +kernel
theorem dX8_step_12 : decode cX8_step 12 = .ok (.i2l, 1) := by decide +kernel
theorem dX8_step_13 : decode cX8_step 13 = .ok (.bipush 7, 2) := by decide +kernel
theorem dX8_step_15 : decode cX8_step 15 = .ok (.invokestatic 55, 3) := by decide +kernel
theorem dX8_step_18 : decode cX8_step 18 = .ok (.ifCond .ne 6, 3) := by decide +kernel
theorem dX8_step_21 : decode cX8_step 21 = .ok (.bipush (-2), 2) := by decide +kernel
theorem dX8_step_23 : decode cX8_step 23 = .ok (.ireturn, 1) := by decide +kernel
theorem dX8_step_24 : decode cX8_step 24 = .ok (.aload_n 0, 1) := by decide +kernel
theorem dX8_step_25 : decode cX8_step 25 = .ok (.getfield 27, 3) := by decide +kernel
theorem dX8_step_28 : decode cX8_step 28 = .ok (.iload_n 1, 1) := by decide +kernel
theorem dX8_step_29 : decode cX8_step 29 = .ok (.aaload, 1) := by decide +kernel
theorem dX8_step_30 : decode cX8_step 30 = .ok (.getfield 138, 3) := by decide +kernel
theorem dX8_step_33 : decode cX8_step 33 = .ok (.iload_n 3, 1) := by decide +kernel
theorem dX8_step_34 : decode cX8_step 34 = .ok (.aaload, 1) := by decide +kernel
theorem dX8_step_35 : decode cX8_step 35 = .ok (.iload_n 2, 1) := by decide +kernel
theorem dX8_step_36 : decode cX8_step 36 = .ok (.iaload, 1) := by decide +kernel
theorem dX8_step_37 : decode cX8_step 37 = .ok (.ireturn, 1) := by decide +kernel
theorem dX8_value_0 : decode cX8_value 0 = .ok (.aload_n 0, 1) := by decide +kernel
theorem dX8_value_1 : decode cX8_value 1 = .ok (.iload_n 1, 1) := by decide +kernel
theorem dX8_value_2 : decode cX8_value 2 = .ok (.iload_n 2, 1) := by decide +kernel
theorem dX8_value_3 : decode cX8_value 3 = .ok (.invokevirtual 134, 3) := by decide +kernel
theorem dX8_value_6 : decode cX8_value 6 = .ok (.ifCond .eq 17, 3) := by decide +kernel
theorem dX8_value_9 : decode cX8_value 9 = .ok (.aload_n 0, 1) := by decide +kernel
theorem dX8_value_10 : decode cX8_value 10 = .ok (.getfield 27, 3) := by decide +kernel
theorem dX8_value_13 : decode cX8_value 13 = .ok (.iload_n 1, 1) := by decide +kernel
theorem dX8_value_14 : decode cX8_value 14 = .ok (.aaload, 1) := by decide +kernel
theorem dX8_value_15 : decode cX8_value 15 = .ok (.getfield 142, 3) := by decide +kernel
theorem dX8_value_18 : decode cX8_value 18 = .ok (.iload_n 2, 1) := by decide +kernel
theorem dX8_value_19 : decode cX8_value 19 = .ok (.laload, 1) := by decide +kernel
theorem dX8_value_20 : decode cX8_value 20 = .ok (.goto 6, 3) := by decide +kernel
theorem dX8_value_23 : decode cX8_value 23 = .ok (.ldc2_w 86, 3) := by decide +kernel
theorem dX8_value_26 : decode cX8_value 26 = .ok (.lreturn, 1) := by decide +kernel
theorem dX8_search_0 : decode cX8_search 0 = .ok (.aload_n 0, 1) := by decide +kernel
theorem dX8_search_1 : decode cX8_search 1 = .ok (.iload_n 1, 1) := by decide +kernel
theorem dX8_search_2 : decode cX8_search 2 = .ok (.invokevirtual 124, 3) := by decide +kernel
theorem dX8_search_5 : decode cX8_search 5 = .ok (.ifCond .ne 5, 3) := by decide +kernel
theorem dX8_search_8 : decode cX8_search 8 = .ok (.iconst (-1), 1) := by decide +kernel
theorem dX8_search_9 : decode cX8_search 9 = .ok (.ireturn, 1) := by decide +kernel
theorem dX8_search_10 : decode cX8_search 10 = .ok (.iload_n 3, 1) := by decide +kernel
theorem dX8_search_11 : decode cX8_search 11 = .ok (.ifCond .ge 6, 3) := by decide +kernel
theorem dX8_search_14 : decode cX8_search 14 = .ok (.bipush (-2), 2) := by decide +kernel
theorem dX8_search_16 : decode cX8_search 16 = .ok (.ireturn, 1) := by decide +kernel
theorem dX8_search_17 : decode cX8_search 17 = .ok (.aload_n 0, 1) := by decide +kernel
theorem dX8_search_18 : decode cX8_search 18 = .ok (.getfield 27, 3) := by decide +kernel
theorem dX8_search_21 : decode cX8_search 21 = .ok (.iload_n 1, 1) := by decide +kernel
theorem dX8_search_22 : decode cX8_search 22 = .ok (.aaload, 1) := by decide +kernel
theorem dX8_search_23 : decode cX8_search 23 = .ok (.iload_n 2, 1) := by decide +kernel
theorem dX8_search_24 : decode cX8_search 24 = .ok (.iload_n 3, 1) := by decide +kernel
theorem dX8_search_25 : decode cX8_search 25 = .ok (.invokevirtual 145, 3) := by decide +kernel
theorem dX8_search_28 : decode cX8_search 28 = .ok (.ireturn, 1) := by decide +kernel
theorem dX8_flame_0 : decode cX8_flame 0 = .ok (.aload_n 0, 1) := by decide +kernel
theorem dX8_flame_1 : decode cX8_flame 1 = .ok (.iload_n 1, 1) := by decide +kernel
theorem dX8_flame_2 : decode cX8_flame 2 = .ok (.invokevirtual 124, 3) := by decide +kernel
theorem dX8_flame_5 : decode cX8_flame 5 = .ok (.ifCond .eq 15, 3) := by decide +kernel
theorem dX8_flame_8 : decode cX8_flame 8 = .ok (.aload_n 0, 1) := by decide +kernel
theorem dX8_flame_9 : decode cX8_flame 9 = .ok (.getfield 20, 3) := by decide +kernel
theorem dX8_flame_12 : decode cX8_flame 12 = .ok (.iload_n 2, 1) := by decide +kernel
theorem dX8_flame_13 : decode cX8_flame 13 = .ok (.i2l, 1) := by decide +kernel
theorem dX8_flame_14 : decode cX8_flame 14 = .ok (.invokevirtual 75, 3) := by decide +kernel
theorem dX8_flame_17 : decode cX8_flame 17 = .ok (.ifCond .ne 5, 3) := by decide +kernel
theorem dX8_flame_20 : decode cX8_flame 20 = .ok (.iconst (-1), 1) := by decide +kernel
theorem dX8_flame_21 : decode cX8_flame 21 = .ok (.ireturn, 1) := by decide +kernel
theorem dX8_flame_22 : decode cX8_flame 22 = .ok (.iload_n 3, 1) := by decide +kernel
theorem dX8_flame_23 : decode cX8_flame 23 = .ok (.i2l, 1) := by decide +kernel
theorem dX8_flame_24 : decode cX8_flame 24 = .ok (.iconst 4, 1) := by decide +kernel
theorem dX8_flame_25 : decode cX8_flame 25 = .ok (.invokestatic 55, 3) := by decide +kernel
theorem dX8_flame_28 : decode cX8_flame 28 = .ok (.ifCond .ne 6, 3) := by decide +kernel
theorem dX8_flame_31 : decode cX8_flame 31 = .ok (.bipush (-2), 2) := by decide +kernel
theorem dX8_flame_33 : decode cX8_flame 33 = .ok (.ireturn, 1) := by decide +kernel
theorem dX8_flame_34 : decode cX8_flame 34 = .ok (.aload_n 0, 1) := by decide +kernel
theorem dX8_flame_35 : decode cX8_flame 35 = .ok (.getfield 27, 3) := by decide +kernel
theorem dX8_flame_38 : decode cX8_flame 38 = .ok (.iload_n 1, 1) := by decide +kernel
theorem dX8_flame_39 : decode cX8_flame 39 = .ok (.aaload, 1) := by decide +kernel
theorem dX8_flame_40 : decode cX8_flame 40 = .ok (.iload_n 2, 1) := by decide +kernel
theorem dX8_flame_41 : decode cX8_flame 41 = .ok (.iload_n 3, 1) := by decide +kernel
theorem dX8_flame_42 : decode cX8_flame 42 = .ok (.iload 4, 2) := by decide +kernel
theorem dX8_flame_44 : decode cX8_flame 44 = .ok (.invokevirtual 148, 3) := by decide +kernel
theorem dX8_flame_47 : decode cX8_flame 47 = .ok (.ireturn, 1) := by decide +kernel
theorem dX8_touch_0 : decode cX8_touch 0 = .ok (.aload_n 0, 1) := by decide +kernel
theorem dX8_touch_1 : decode cX8_touch 1 = .ok (.iload_n 1, 1) := by decide +kernel
theorem dX8_touch_2 : decode cX8_touch 2 = .ok (.invokevirtual 124, 3) := by decide +kernel
theorem dX8_touch_5 : decode cX8_touch 5 = .ok (.ifCond .eq 23, 3) := by decide +kernel
theorem dX8_touch_8 : decode cX8_touch 8 = .ok (.iload_n 2, 1) := by decide +kernel
theorem dX8_touch_9 : decode cX8_touch 9 = .ok (.i2l, 1) := by decide +kernel
theorem dX8_touch_10 : decode cX8_touch 10 = .ok (.aload_n 0, 1) := by decide +kernel
theorem dX8_touch_11 : decode cX8_touch 11 = .ok (.getfield 27, 3) := by decide +kernel
theorem dX8_touch_14 : decode cX8_touch 14 = .ok (.iload_n 1, 1) := by decide +kernel
theorem dX8_touch_15 : decode cX8_touch 15 = .ok (.aaload, 1) := by decide +kernel
theorem dX8_touch_16 : decode cX8_touch 16 = .ok (.getfield 152, 3) := by decide +kernel
theorem dX8_touch_19 : decode cX8_touch 19 = .ok (.getfield 156, 3) := by decide +kernel
theorem dX8_touch_22 : decode cX8_touch 22 = .ok (.invokestatic 55, 3) := by decide +kernel
theorem dX8_touch_25 : decode cX8_touch 25 = .ok (.ifCond .ne 5, 3) := by decide +kernel
theorem dX8_touch_28 : decode cX8_touch 28 = .ok (.iconst (-1), 1) := by decide +kernel
theorem dX8_touch_29 : decode cX8_touch 29 = .ok (.ireturn, 1) := by decide +kernel
theorem dX8_touch_30 : decode cX8_touch 30 = .ok (.aload_n 0, 1) := by decide +kernel
theorem dX8_touch_31 : decode cX8_touch 31 = .ok (.getfield 27, 3) := by decide +kernel
theorem dX8_touch_34 : decode cX8_touch 34 = .ok (.iload_n 1, 1) := by decide +kernel
theorem dX8_touch_35 : decode cX8_touch 35 = .ok (.aaload, 1) := by decide +kernel
theorem dX8_touch_36 : decode cX8_touch 36 = .ok (.getfield 152, 3) := by decide +kernel
theorem dX8_touch_39 : decode cX8_touch 39 = .ok (.astore 4, 2) := by decide +kernel
theorem dX8_touch_41 : decode cX8_touch 41 = .ok (.aload 4, 2) := by decide +kernel
theorem dX8_touch_43 : decode cX8_touch 43 = .ok (.getfield 161, 3) := by decide +kernel
theorem dX8_touch_46 : decode cX8_touch 46 = .ok (.iload_n 2, 1) := by decide +kernel
theorem dX8_touch_47 : decode cX8_touch 47 = .ok (.iaload, 1) := by decide +kernel
theorem dX8_touch_48 : decode cX8_touch 48 = .ok (.istore 5, 2) := by decide +kernel
theorem dX8_touch_50 : decode cX8_touch 50 = .ok (.iload_n 3, 1) := by decide +kernel
theorem dX8_touch_51 : decode cX8_touch 51 = .ok (.tableswitch 59 0 3 #[29, 35, 41, 50], 29) := by decide +kernel
theorem dX8_touch_80 : decode cX8_touch 80 = .ok (.iload 5, 2) := by decide +kernel
theorem dX8_touch_82 : decode cX8_touch 82 = .ok (.bipush 8, 2) := by decide +kernel
theorem dX8_touch_84 : decode cX8_touch 84 = .ok (.idiv, 1) := by decide +kernel
theorem dX8_touch_85 : decode cX8_touch 85 = .ok (.ireturn, 1) := by decide +kernel
theorem dX8_touch_86 : decode cX8_touch 86 = .ok (.iload 5, 2) := by decide +kernel
theorem dX8_touch_88 : decode cX8_touch 88 = .ok (.bipush 8, 2) := by decide +kernel
theorem dX8_touch_90 : decode cX8_touch 90 = .ok (.irem, 1) := by decide +kernel
theorem dX8_touch_91 : decode cX8_touch 91 = .ok (.ireturn, 1) := by decide +kernel
theorem dX8_touch_92 : decode cX8_touch 92 = .ok (.aload 4, 2) := by decide +kernel
theorem dX8_touch_94 : decode cX8_touch 94 = .ok (.getfield 164, 3) := by decide +kernel
theorem dX8_touch_97 : decode cX8_touch 97 = .ok (.iload 5, 2) := by decide +kernel
theorem dX8_touch_99 : decode cX8_touch 99 = .ok (.iaload, 1) := by decide +kernel
theorem dX8_touch_100 : decode cX8_touch 100 = .ok (.ireturn, 1) := by decide +kernel
theorem dX8_touch_101 : decode cX8_touch 101 = .ok (.aload 4, 2) := by decide +kernel
theorem dX8_touch_103 : decode cX8_touch 103 = .ok (.getfield 167, 3) := by decide +kernel
theorem dX8_touch_106 : decode cX8_touch 106 = .ok (.iload 5, 2) := by decide +kernel
theorem dX8_touch_108 : decode cX8_touch 108 = .ok (.iaload, 1) := by decide +kernel
theorem dX8_touch_109 : decode cX8_touch 109 = .ok (.ireturn, 1) := by decide +kernel
theorem dX8_touch_110 : decode cX8_touch 110 = .ok (.bipush (-2), 2) := by decide +kernel
theorem dX8_touch_112 : decode cX8_touch 112 = .ok (.ireturn, 1) := by decide +kernel
theorem dX8_flow_0 : decode cX8_flow 0 = .ok (.aload_n 0, 1) := by decide +kernel
theorem dX8_flow_1 : decode cX8_flow 1 = .ok (.iload_n 1, 1) := by decide +kernel
theorem dX8_flow_2 : decode cX8_flow 2 = .ok (.invokevirtual 124, 3) := by decide +kernel
theorem dX8_flow_5 : decode cX8_flow 5 = .ok (.ifCond .eq 15, 3) := by decide +kernel
theorem dX8_flow_8 : decode cX8_flow 8 = .ok (.aload_n 0, 1) := by decide +kernel
theorem dX8_flow_9 : decode cX8_flow 9 = .ok (.getfield 20, 3) := by decide +kernel
theorem dX8_flow_12 : decode cX8_flow 12 = .ok (.iload_n 2, 1) := by decide +kernel
theorem dX8_flow_13 : decode cX8_flow 13 = .ok (.i2l, 1) := by decide +kernel
theorem dX8_flow_14 : decode cX8_flow 14 = .ok (.invokevirtual 75, 3) := by decide +kernel
theorem dX8_flow_17 : decode cX8_flow 17 = .ok (.ifCond .ne 7, 3) := by decide +kernel
theorem dX8_flow_20 : decode cX8_flow 20 = .ok (.ldc2_w 86, 3) := by decide +kernel
theorem dX8_flow_23 : decode cX8_flow 23 = .ok (.lreturn, 1) := by decide +kernel
theorem dX8_flow_24 : decode cX8_flow 24 = .ok (.iload_n 3, 1) := by decide +kernel
theorem dX8_flow_25 : decode cX8_flow 25 = .ok (.ifCond .eq 17, 3) := by decide +kernel
theorem dX8_flow_28 : decode cX8_flow 28 = .ok (.aload_n 0, 1) := by decide +kernel
theorem dX8_flow_29 : decode cX8_flow 29 = .ok (.getfield 27, 3) := by decide +kernel
theorem dX8_flow_32 : decode cX8_flow 32 = .ok (.iload_n 1, 1) := by decide +kernel
theorem dX8_flow_33 : decode cX8_flow 33 = .ok (.aaload, 1) := by decide +kernel
theorem dX8_flow_34 : decode cX8_flow 34 = .ok (.getfield 170, 3) := by decide +kernel
theorem dX8_flow_37 : decode cX8_flow 37 = .ok (.iload_n 2, 1) := by decide +kernel
theorem dX8_flow_38 : decode cX8_flow 38 = .ok (.laload, 1) := by decide +kernel
theorem dX8_flow_39 : decode cX8_flow 39 = .ok (.goto 14, 3) := by decide +kernel
theorem dX8_flow_42 : decode cX8_flow 42 = .ok (.aload_n 0, 1) := by decide +kernel
theorem dX8_flow_43 : decode cX8_flow 43 = .ok (.getfield 27, 3) := by decide +kernel
theorem dX8_flow_46 : decode cX8_flow 46 = .ok (.iload_n 1, 1) := by decide +kernel
theorem dX8_flow_47 : decode cX8_flow 47 = .ok (.aaload, 1) := by decide +kernel
theorem dX8_flow_48 : decode cX8_flow 48 = .ok (.getfield 173, 3) := by decide +kernel
theorem dX8_flow_51 : decode cX8_flow 51 = .ok (.iload_n 2, 1) := by decide +kernel
theorem dX8_flow_52 : decode cX8_flow 52 = .ok (.laload, 1) := by decide +kernel
theorem dX8_flow_53 : decode cX8_flow 53 = .ok (.lreturn, 1) := by decide +kernel
theorem dX8_tell_0 : decode cX8_tell 0 = .ok (.aload_n 0, 1) := by decide +kernel
theorem dX8_tell_1 : decode cX8_tell 1 = .ok (.iload_n 1, 1) := by decide +kernel
theorem dX8_tell_2 : decode cX8_tell 2 = .ok (.invokevirtual 124, 3) := by decide +kernel
theorem dX8_tell_5 : decode cX8_tell 5 = .ok (.ifCond .eq 15, 3) := by decide +kernel
theorem dX8_tell_8 : decode cX8_tell 8 = .ok (.aload_n 0, 1) := by decide +kernel
theorem dX8_tell_9 : decode cX8_tell 9 = .ok (.getfield 20, 3) := by decide +kernel
theorem dX8_tell_12 : decode cX8_tell 12 = .ok (.iload_n 2, 1) := by decide +kernel
theorem dX8_tell_13 : decode cX8_tell 13 = .ok (.i2l, 1) := by decide +kernel
theorem dX8_tell_14 : decode cX8_tell 14 = .ok (.invokevirtual 75, 3) := by decide +kernel
theorem dX8_tell_17 : decode cX8_tell 17 = .ok (.ifCond .ne 7, 3) := by decide +kernel
theorem dX8_tell_20 : decode cX8_tell 20 = .ok (.ldc2_w 86, 3) := by decide +kernel
theorem dX8_tell_23 : decode cX8_tell 23 = .ok (.lreturn, 1) := by decide +kernel
theorem dX8_tell_24 : decode cX8_tell 24 = .ok (.aload_n 0, 1) := by decide +kernel
theorem dX8_tell_25 : decode cX8_tell 25 = .ok (.getfield 27, 3) := by decide +kernel
theorem dX8_tell_28 : decode cX8_tell 28 = .ok (.iload_n 1, 1) := by decide +kernel
theorem dX8_tell_29 : decode cX8_tell 29 = .ok (.aaload, 1) := by decide +kernel
theorem dX8_tell_30 : decode cX8_tell 30 = .ok (.getfield 176, 3) := by decide +kernel
theorem dX8_tell_33 : decode cX8_tell 33 = .ok (.astore 5, 2) := by decide +kernel
theorem dX8_tell_35 : decode cX8_tell 35 = .ok (.aload 5, 2) := by decide +kernel
theorem dX8_tell_37 : decode cX8_tell 37 = .ok (.iload_n 2, 1) := by decide +kernel
theorem dX8_tell_38 : decode cX8_tell 38 = .ok (.iload_n 3, 1) := by decide +kernel
theorem dX8_tell_39 : decode cX8_tell 39 = .ok (.invokevirtual 180, 3) := by decide +kernel
theorem dX8_tell_42 : decode cX8_tell 42 = .ok (.istore 6, 2) := by decide +kernel
theorem dX8_tell_44 : decode cX8_tell 44 = .ok (.iload 6, 2) := by decide +kernel
theorem dX8_tell_46 : decode cX8_tell 46 = .ok (.bipush (-5), 2) := by decide +kernel
theorem dX8_tell_48 : decode cX8_tell 48 = .ok (.if_icmp .ne 7, 3) := by decide +kernel
theorem dX8_tell_51 : decode cX8_tell 51 = .ok (.ldc2_w 86, 3) := by decide +kernel
theorem dX8_tell_54 : decode cX8_tell 54 = .ok (.lreturn, 1) := by decide +kernel
theorem dX8_tell_55 : decode cX8_tell 55 = .ok (.iload 4, 2) := by decide +kernel
theorem dX8_tell_57 : decode cX8_tell 57 = .ok (.lookupswitch 40 #[(0, 27), (1, 36)], 27) := by decide +kernel
theorem dX8_tell_84 : decode cX8_tell 84 = .ok (.aload 5, 2) := by decide +kernel
theorem dX8_tell_86 : decode cX8_tell 86 = .ok (.getfield 185, 3) := by decide +kernel
theorem dX8_tell_89 : decode cX8_tell 89 = .ok (.iload 6, 2) := by decide +kernel
theorem dX8_tell_91 : decode cX8_tell 91 = .ok (.laload, 1) := by decide +kernel
theorem dX8_tell_92 : decode cX8_tell 92 = .ok (.lreturn, 1) := by decide +kernel
theorem dX8_tell_93 : decode cX8_tell 93 = .ok (.iload 6, 2) := by decide +kernel
theorem dX8_tell_95 : decode cX8_tell 95 = .ok (.i2l, 1) := by decide +kernel
theorem dX8_tell_96 : decode cX8_tell 96 = .ok (.lreturn, 1) := by decide +kernel
theorem dX8_tell_97 : decode cX8_tell 97 = .ok (.ldc2_w 90, 3) := by decide +kernel
theorem dX8_tell_100 : decode cX8_tell 100 = .ok (.lreturn, 1) := by decide +kernel
theorem dX8_told_0 : decode cX8_told 0 = .ok (.aload_n 0, 1) := by decide +kernel
theorem dX8_told_1 : decode cX8_told 1 = .ok (.iload_n 1, 1) := by decide +kernel
theorem dX8_told_2 : decode cX8_told 2 = .ok (.invokevirtual 124, 3) := by decide +kernel
theorem dX8_told_5 : decode cX8_told 5 = .ok (.ifCond .eq 23, 3) := by decide +kernel
theorem dX8_told_8 : decode cX8_told 8 = .ok (.iload_n 2, 1) := by decide +kernel
theorem dX8_told_9 : decode cX8_told 9 = .ok (.i2l, 1) := by decide +kernel
theorem dX8_told_10 : decode cX8_told 10 = .ok (.aload_n 0, 1) := by decide +kernel
theorem dX8_told_11 : decode cX8_told 11 = .ok (.getfield 27, 3) := by decide +kernel
theorem dX8_told_14 : decode cX8_told 14 = .ok (.iload_n 1, 1) := by decide +kernel
theorem dX8_told_15 : decode cX8_told 15 = .ok (.aaload, 1) := by decide +kernel
theorem dX8_told_16 : decode cX8_told 16 = .ok (.getfield 176, 3) := by decide +kernel
theorem dX8_told_19 : decode cX8_told 19 = .ok (.getfield 188, 3) := by decide +kernel
theorem dX8_told_22 : decode cX8_told 22 = .ok (.invokestatic 55, 3) := by decide +kernel
theorem dX8_told_25 : decode cX8_told 25 = .ok (.ifCond .ne 7, 3) := by decide +kernel
theorem dX8_told_28 : decode cX8_told 28 = .ok (.ldc2_w 86, 3) := by decide +kernel
theorem dX8_told_31 : decode cX8_told 31 = .ok (.lreturn, 1) := by decide +kernel
theorem dX8_told_32 : decode cX8_told 32 = .ok (.aload_n 0, 1) := by decide +kernel
theorem dX8_told_33 : decode cX8_told 33 = .ok (.getfield 27, 3) := by decide +kernel
theorem dX8_told_36 : decode cX8_told 36 = .ok (.iload_n 1, 1) := by decide +kernel
theorem dX8_told_37 : decode cX8_told 37 = .ok (.aaload, 1) := by decide +kernel
theorem dX8_told_38 : decode cX8_told 38 = .ok (.getfield 176, 3) := by decide +kernel
theorem dX8_told_41 : decode cX8_told 41 = .ok (.getfield 189, 3) := by decide +kernel
theorem dX8_told_44 : decode cX8_told 44 = .ok (.iload_n 2, 1) := by decide +kernel
theorem dX8_told_45 : decode cX8_told 45 = .ok (.laload, 1) := by decide +kernel
theorem dX8_told_46 : decode cX8_told 46 = .ok (.lreturn, 1) := by decide +kernel
theorem dX8_back_0 : decode cX8_back 0 = .ok (.aload_n 0, 1) := by decide +kernel
theorem dX8_back_1 : decode cX8_back 1 = .ok (.iload_n 1, 1) := by decide +kernel
theorem dX8_back_2 : decode cX8_back 2 = .ok (.invokevirtual 124, 3) := by decide +kernel
theorem dX8_back_5 : decode cX8_back 5 = .ok (.ifCond .eq 20, 3) := by decide +kernel
theorem dX8_back_8 : decode cX8_back 8 = .ok (.iload_n 2, 1) := by decide +kernel
theorem dX8_back_9 : decode cX8_back 9 = .ok (.ifCond .lt 16, 3) := by decide +kernel
theorem dX8_back_12 : decode cX8_back 12 = .ok (.iload_n 2, 1) := by decide +kernel
theorem dX8_back_13 : decode cX8_back 13 = .ok (.aload_n 0, 1) := by decide +kernel
theorem dX8_back_14 : decode cX8_back 14 = .ok (.getfield 27, 3) := by decide +kernel
theorem dX8_back_17 : decode cX8_back 17 = .ok (.iload_n 1, 1) := by decide +kernel
theorem dX8_back_18 : decode cX8_back 18 = .ok (.aaload, 1) := by decide +kernel
theorem dX8_back_19 : decode cX8_back 19 = .ok (.getfield 192, 3) := by decide +kernel
theorem dX8_back_22 : decode cX8_back 22 = .ok (.if_icmp .le 7, 3) := by decide +kernel
theorem dX8_back_25 : decode cX8_back 25 = .ok (.ldc2_w 86, 3) := by decide +kernel
theorem dX8_back_28 : decode cX8_back 28 = .ok (.lreturn, 1) := by decide +kernel
theorem dX8_back_29 : decode cX8_back 29 = .ok (.aload_n 0, 1) := by decide +kernel
theorem dX8_back_30 : decode cX8_back 30 = .ok (.getfield 12, 3) := by decide +kernel
theorem dX8_back_33 : decode cX8_back 33 = .ok (.getfield 195, 3) := by decide +kernel
theorem dX8_back_36 : decode cX8_back 36 = .ok (.aload_n 0, 1) := by decide +kernel
theorem dX8_back_37 : decode cX8_back 37 = .ok (.getfield 27, 3) := by decide +kernel
theorem dX8_back_40 : decode cX8_back 40 = .ok (.iload_n 1, 1) := by decide +kernel
theorem dX8_back_41 : decode cX8_back 41 = .ok (.aaload, 1) := by decide +kernel
theorem dX8_back_42 : decode cX8_back 42 = .ok (.invokevirtual 199, 3) := by decide +kernel
theorem dX8_back_45 : decode cX8_back 45 = .ok (.aload_n 0, 1) := by decide +kernel
theorem dX8_back_46 : decode cX8_back 46 = .ok (.getfield 12, 3) := by decide +kernel
theorem dX8_back_49 : decode cX8_back 49 = .ok (.aload_n 0, 1) := by decide +kernel
theorem dX8_back_50 : decode cX8_back 50 = .ok (.getfield 12, 3) := by decide +kernel
theorem dX8_back_53 : decode cX8_back 53 = .ok (.getfield 195, 3) := by decide +kernel
theorem dX8_back_56 : decode cX8_back 56 = .ok (.iload_n 2, 1) := by decide +kernel
theorem dX8_back_57 : decode cX8_back 57 = .ok (.invokevirtual 108, 3) := by decide +kernel
theorem dX8_back_60 : decode cX8_back 60 = .ok (.aload_n 0, 1) := by decide +kernel
theorem dX8_back_61 : decode cX8_back 61 = .ok (.aload_n 0, 1) := by decide +kernel
theorem dX8_back_62 : decode cX8_back 62 = .ok (.getfield 12, 3) := by decide +kernel
theorem dX8_back_65 : decode cX8_back 65 = .ok (.getfield 115, 3) := by decide +kernel
theorem dX8_back_68 : decode cX8_back 68 = .ok (.invokevirtual 203, 3) := by decide +kernel
theorem dX8_back_71 : decode cX8_back 71 = .ok (.lreturn, 1) := by decide +kernel
theorem dX8_state_0 : decode cX8_state 0 = .ok (.aload_n 0, 1) := by decide +kernel
theorem dX8_state_1 : decode cX8_state 1 = .ok (.aload_n 0, 1) := by decide +kernel
theorem dX8_state_2 : decode cX8_state 2 = .ok (.getfield 21, 3) := by decide +kernel
theorem dX8_state_5 : decode cX8_state 5 = .ok (.invokevirtual 203, 3) := by decide +kernel
theorem dX8_state_8 : decode cX8_state 8 = .ok (.lreturn, 1) := by decide +kernel
theorem dX8_compare_0 : decode cX8_compare 0 = .ok (.aload_n 0, 1) := by decide +kernel
theorem dX8_compare_1 : decode cX8_compare 1 = .ok (.iload_n 1, 1) := by decide +kernel
theorem dX8_compare_2 : decode cX8_compare 2 = .ok (.invokevirtual 124, 3) := by decide +kernel
theorem dX8_compare_5 : decode cX8_compare 5 = .ok (.ifCond .eq 11, 3) := by decide +kernel
theorem dX8_compare_8 : decode cX8_compare 8 = .ok (.aload_n 0, 1) := by decide +kernel
theorem dX8_compare_9 : decode cX8_compare 9 = .ok (.iload_n 2, 1) := by decide +kernel
theorem dX8_compare_10 : decode cX8_compare 10 = .ok (.invokevirtual 124, 3) := by decide +kernel
theorem dX8_compare_13 : decode cX8_compare 13 = .ok (.ifCond .ne 5, 3) := by decide +kernel
theorem dX8_compare_16 : decode cX8_compare 16 = .ok (.iconst (-1), 1) := by decide +kernel
theorem dX8_compare_17 : decode cX8_compare 17 = .ok (.ireturn, 1) := by decide +kernel
theorem dX8_compare_18 : decode cX8_compare 18 = .ok (.aload_n 0, 1) := by decide +kernel
theorem dX8_compare_19 : decode cX8_compare 19 = .ok (.getfield 27, 3) := by decide +kernel
theorem dX8_compare_22 : decode cX8_compare 22 = .ok (.iload_n 1, 1) := by decide +kernel
theorem dX8_compare_23 : decode cX8_compare 23 = .ok (.aaload, 1) := by decide +kernel
theorem dX8_compare_24 : decode cX8_compare 24 = .ok (.aload_n 0, 1) := by decide +kernel
theorem dX8_compare_25 : decode cX8_compare 25 = .ok (.getfield 27, 3) := by decide +kernel
theorem dX8_compare_28 : decode cX8_compare 28 = .ok (.iload_n 2, 1) := by decide +kernel
theorem dX8_compare_29 : decode cX8_compare 29 = .ok (.aaload, 1) := by decide +kernel
theorem dX8_compare_30 : decode cX8_compare 30 = .ok (.invokevirtual 207, 3) := by decide +kernel
theorem dX8_compare_33 : decode cX8_compare 33 = .ok (.ireturn, 1) := by decide +kernel
theorem dX8_halves_0 : decode cX8_halves 0 = .ok (.aload_n 0, 1) := by decide +kernel
theorem dX8_halves_1 : decode cX8_halves 1 = .ok (.iload_n 1, 1) := by decide +kernel
theorem dX8_halves_2 : decode cX8_halves 2 = .ok (.invokevirtual 124, 3) := by decide +kernel
theorem dX8_halves_5 : decode cX8_halves 5 = .ok (.ifCond .eq 11, 3) := by decide +kernel
theorem dX8_halves_8 : decode cX8_halves 8 = .ok (.aload_n 0, 1) := by decide +kernel
theorem dX8_halves_9 : decode cX8_halves 9 = .ok (.iload_n 2, 1) := by decide +kernel
theorem dX8_halves_10 : decode cX8_halves 10 = .ok (.invokevirtual 124, 3) := by decide +kernel
theorem dX8_halves_13 : decode cX8_halves 13 = .ok (.ifCond .ne 5, 3) := by decide +kernel
theorem dX8_halves_16 : decode cX8_halves 16 = .ok (.iconst (-1), 1) := by decide +kernel
theorem dX8_halves_17 : decode cX8_halves 17 = .ok (.ireturn, 1) := by decide +kernel
theorem dX8_halves_18 : decode cX8_halves 18 = .ok (.iconst 0, 1) := by decide +kernel
theorem dX8_halves_19 : decode cX8_halves 19 = .ok (.istore_n 3, 1) := by decide +kernel
theorem dX8_halves_20 : decode cX8_halves 20 = .ok (.aload_n 0, 1) := by decide +kernel
theorem dX8_halves_21 : decode cX8_halves 21 = .ok (.getfield 27, 3) := by decide +kernel
theorem dX8_halves_24 : decode cX8_halves 24 = .ok (.iload_n 1, 1) := by decide +kernel
theorem dX8_halves_25 : decode cX8_halves 25 = .ok (.aaload, 1) := by decide +kernel
theorem dX8_halves_26 : decode cX8_halves 26 = .ok (.getfield 192, 3) := by decide +kernel
theorem dX8_halves_29 : decode cX8_halves 29 = .ok (.aload_n 0, 1) := by decide +kernel
theorem dX8_halves_30 : decode cX8_halves 30 = .ok (.getfield 27, 3) := by decide +kernel
theorem dX8_halves_33 : decode cX8_halves 33 = .ok (.iload_n 2, 1) := by decide +kernel
theorem dX8_halves_34 : decode cX8_halves 34 = .ok (.aaload, 1) := by decide +kernel
theorem dX8_halves_35 : decode cX8_halves 35 = .ok (.getfield 192, 3) := by decide +kernel
theorem dX8_halves_38 : decode cX8_halves 38 = .ok (.invokestatic 211, 3) := by decide +kernel
theorem dX8_halves_41 : decode cX8_halves 41 = .ok (.istore 4, 2) := by decide +kernel
theorem dX8_halves_43 : decode cX8_halves 43 = .ok (.iconst 0, 1) := by decide +kernel
theorem dX8_halves_44 : decode cX8_halves 44 = .ok (.istore 5, 2) := by decide +kernel
theorem dX8_halves_46 : decode cX8_halves 46 = .ok (.iconst 0, 1) := by decide +kernel
theorem dX8_halves_47 : decode cX8_halves 47 = .ok (.istore 6, 2) := by decide +kernel
theorem dX8_halves_49 : decode cX8_halves 49 = .ok (.iload 6, 2) := by decide +kernel
theorem dX8_halves_51 : decode cX8_halves 51 = .ok (.bipush 100, 2) := by decide +kernel
theorem dX8_halves_53 : decode cX8_halves 53 = .ok (.if_icmp .ge 66, 3) := by decide +kernel
theorem dX8_halves_56 : decode cX8_halves 56 = .ok (.iload_n 3, 1) := by decide +kernel
theorem dX8_halves_57 : decode cX8_halves 57 = .ok (.iload 4, 2) := by decide +kernel
theorem dX8_halves_59 : decode cX8_halves 59 = .ok (.if_icmp .ge 60, 3) := by decide +kernel
theorem dX8_halves_62 : decode cX8_halves 62 = .ok (.iload_n 3, 1) := by decide +kernel
theorem dX8_halves_63 : decode cX8_halves 63 = .ok (.iload 4, 2) := by decide +kernel
theorem dX8_halves_65 : decode cX8_halves 65 = .ok (.iadd, 1) := by decide +kernel
theorem dX8_halves_66 : decode cX8_halves 66 = .ok (.iconst 1, 1) := by decide +kernel
theorem dX8_halves_67 : decode cX8_halves 67 = .ok (.iadd, 1) := by decide +kernel
theorem dX8_halves_68 : decode cX8_halves 68 = .ok (.iconst 2, 1) := by decide +kernel
theorem dX8_halves_69 : decode cX8_halves 69 = .ok (.idiv, 1) := by decide +kernel
theorem dX8_halves_70 : decode cX8_halves 70 = .ok (.istore 7, 2) := by decide +kernel
theorem dX8_halves_72 : decode cX8_halves 72 = .ok (.iinc 5 1, 3) := by decide +kernel
theorem dX8_halves_75 : decode cX8_halves 75 = .ok (.aload_n 0, 1) := by decide +kernel
theorem dX8_halves_76 : decode cX8_halves 76 = .ok (.getfield 27, 3) := by decide +kernel
theorem dX8_halves_79 : decode cX8_halves 79 = .ok (.iload_n 1, 1) := by decide +kernel
theorem dX8_halves_80 : decode cX8_halves 80 = .ok (.aaload, 1) := by decide +kernel
theorem dX8_halves_81 : decode cX8_halves 81 = .ok (.iload 7, 2) := by decide +kernel
theorem dX8_halves_83 : decode cX8_halves 83 = .ok (.invokevirtual 216, 3) := by decide +kernel
theorem dX8_halves_86 : decode cX8_halves 86 = .ok (.aload_n 0, 1) := by decide +kernel
theorem dX8_halves_87 : decode cX8_halves 87 = .ok (.getfield 27, 3) := by decide +kernel
theorem dX8_halves_90 : decode cX8_halves 90 = .ok (.iload_n 2, 1) := by decide +kernel
theorem dX8_halves_91 : decode cX8_halves 91 = .ok (.aaload, 1) := by decide +kernel
theorem dX8_halves_92 : decode cX8_halves 92 = .ok (.iload 7, 2) := by decide +kernel
theorem dX8_halves_94 : decode cX8_halves 94 = .ok (.invokevirtual 216, 3) := by decide +kernel
theorem dX8_halves_97 : decode cX8_halves 97 = .ok (.lcmp, 1) := by decide +kernel
theorem dX8_halves_98 : decode cX8_halves 98 = .ok (.ifCond .ne 9, 3) := by decide +kernel
theorem dX8_halves_101 : decode cX8_halves 101 = .ok (.iload 7, 2) := by decide +kernel
theorem dX8_halves_103 : decode cX8_halves 103 = .ok (.istore_n 3, 1) := by decide +kernel
theorem dX8_halves_104 : decode cX8_halves 104 = .ok (.goto 9, 3) := by decide +kernel
theorem dX8_halves_107 : decode cX8_halves 107 = .ok (.iload 7, 2) := by decide +kernel
theorem dX8_halves_109 : decode cX8_halves 109 = .ok (.iconst 1, 1) := by decide +kernel
theorem dX8_halves_110 : decode cX8_halves 110 = .ok (.isub, 1) := by decide +kernel
theorem dX8_halves_111 : decode cX8_halves 111 = .ok (.istore 4, 2) := by decide +kernel
theorem dX8_halves_113 : decode cX8_halves 113 = .ok (.iinc 6 1, 3) := by decide +kernel
theorem dX8_halves_116 : decode cX8_halves 116 = .ok (.goto (-67), 3) := by decide +kernel
theorem dX8_halves_119 : decode cX8_halves 119 = .ok (.iload 5, 2) := by decide +kernel
theorem dX8_halves_121 : decode cX8_halves 121 = .ok (.ireturn, 1) := by decide +kernel
theorem dX8_write_0 : decode cX8_write 0 = .ok (.aload_n 0, 1) := by decide +kernel
theorem dX8_write_1 : decode cX8_write 1 = .ok (.iload_n 1, 1) := by decide +kernel
theorem dX8_write_2 : decode cX8_write 2 = .ok (.iload_n 2, 1) := by decide +kernel
theorem dX8_write_3 : decode cX8_write 3 = .ok (.invokevirtual 134, 3) := by decide +kernel
theorem dX8_write_6 : decode cX8_write 6 = .ok (.ifCond .ne 5, 3) := by decide +kernel
theorem dX8_write_9 : decode cX8_write 9 = .ok (.iconst (-1), 1) := by decide +kernel
theorem dX8_write_10 : decode cX8_write 10 = .ok (.ireturn, 1) := by decide +kernel
theorem dX8_write_11 : decode cX8_write 11 = .ok (.aload_n 0, 1) := by decide +kernel
theorem dX8_write_12 : decode cX8_write 12 = .ok (.getfield 34, 3) := by decide +kernel
theorem dX8_write_15 : decode cX8_write 15 = .ok (.aload_n 0, 1) := by decide +kernel
theorem dX8_write_16 : decode cX8_write 16 = .ok (.getfield 27, 3) := by decide +kernel
theorem dX8_write_19 : decode cX8_write 19 = .ok (.iload_n 1, 1) := by decide +kernel
theorem dX8_write_20 : decode cX8_write 20 = .ok (.aaload, 1) := by decide +kernel
theorem dX8_write_21 : decode cX8_write 21 = .ok (.iload_n 2, 1) := by decide +kernel
theorem dX8_write_22 : decode cX8_write 22 = .ok (.invokevirtual 220, 3) := by decide +kernel
theorem dX8_write_25 : decode cX8_write 25 = .ok (.aload_n 0, 1) := by decide +kernel
theorem dX8_write_26 : decode cX8_write 26 = .ok (.getfield 34, 3) := by decide +kernel
theorem dX8_write_29 : decode cX8_write 29 = .ok (.getfield 223, 3) := by decide +kernel
theorem dX8_write_32 : decode cX8_write 32 = .ok (.ireturn, 1) := by decide +kernel
theorem dX8_out_0 : decode cX8_out 0 = .ok (.iload_n 1, 1) := by decide +kernel
theorem dX8_out_1 : decode cX8_out 1 = .ok (.i2l, 1) := by decide +kernel
theorem dX8_out_2 : decode cX8_out 2 = .ok (.aload_n 0, 1) := by decide +kernel
theorem dX8_out_3 : decode cX8_out 3 = .ok (.getfield 34, 3) := by decide +kernel
theorem dX8_out_6 : decode cX8_out 6 = .ok (.getfield 223, 3) := by decide +kernel
theorem dX8_out_9 : decode cX8_out 9 = .ok (.invokestatic 55, 3) := by decide +kernel
theorem dX8_out_12 : decode cX8_out 12 = .ok (.ifCond .eq 15, 3) := by decide +kernel
theorem dX8_out_15 : decode cX8_out 15 = .ok (.aload_n 0, 1) := by decide +kernel
theorem dX8_out_16 : decode cX8_out 16 = .ok (.getfield 34, 3) := by decide +kernel
theorem dX8_out_19 : decode cX8_out 19 = .ok (.getfield 226, 3) := by decide +kernel
theorem dX8_out_22 : decode cX8_out 22 = .ok (.iload_n 1, 1) := by decide +kernel
theorem dX8_out_23 : decode cX8_out 23 = .ok (.baload, 1) := by decide +kernel
theorem dX8_out_24 : decode cX8_out 24 = .ok (.goto 5, 3) := by decide +kernel
theorem dX8_out_27 : decode cX8_out 27 = .ok (.bipush (-5), 2) := by decide +kernel
theorem dX8_out_29 : decode cX8_out 29 = .ok (.ireturn, 1) := by decide +kernel
theorem dX8_count_0 : decode cX8_count 0 = .ok (.iload_n 1, 1) := by decide +kernel
theorem dX8_count_1 : decode cX8_count 1 = .ok (.tableswitch 57 0 3 #[31, 39, 47, 52], 31) := by decide +kernel
theorem dX8_count_32 : decode cX8_count 32 = .ok (.aload_n 0, 1) := by decide +kernel
theorem dX8_count_33 : decode cX8_count 33 = .ok (.getfield 20, 3) := by decide +kernel
theorem dX8_count_36 : decode cX8_count 36 = .ok (.getfield 46, 3) := by decide +kernel
theorem dX8_count_39 : decode cX8_count 39 = .ok (.ireturn, 1) := by decide +kernel
theorem dX8_count_40 : decode cX8_count 40 = .ok (.aload_n 0, 1) := by decide +kernel
theorem dX8_count_41 : decode cX8_count 41 = .ok (.getfield 20, 3) := by decide +kernel
theorem dX8_count_44 : decode cX8_count 44 = .ok (.getfield 72, 3) := by decide +kernel
theorem dX8_count_47 : decode cX8_count 47 = .ok (.ireturn, 1) := by decide +kernel
theorem dX8_count_48 : decode cX8_count 48 = .ok (.aload_n 0, 1) := by decide +kernel
theorem dX8_count_49 : decode cX8_count 49 = .ok (.getfield 38, 3) := by decide +kernel
theorem dX8_count_52 : decode cX8_count 52 = .ok (.ireturn, 1) := by decide +kernel
theorem dX8_count_53 : decode cX8_count 53 = .ok (.aload_n 0, 1) := by decide +kernel
theorem dX8_count_54 : decode cX8_count 54 = .ok (.getfield 42, 3) := by decide +kernel
theorem dX8_count_57 : decode cX8_count 57 = .ok (.ireturn, 1) := by decide +kernel
theorem dX8_count_58 : decode cX8_count 58 = .ok (.bipush (-2), 2) := by decide +kernel
theorem dX8_count_60 : decode cX8_count 60 = .ok (.ireturn, 1) := by decide +kernel
theorem dX8_isKept_0 : decode cX8_isKept 0 = .ok (.iload_n 1, 1) := by decide +kernel
theorem dX8_isKept_1 : decode cX8_isKept 1 = .ok (.i2l, 1) := by decide +kernel
theorem dX8_isKept_2 : decode cX8_isKept 2 = .ok (.aload_n 0, 1) := by decide +kernel
theorem dX8_isKept_3 : decode cX8_isKept 3 = .ok (.getfield 38, 3) := by decide +kernel
theorem dX8_isKept_6 : decode cX8_isKept 6 = .ok (.invokestatic 55, 3) := by decide +kernel
theorem dX8_isKept_9 : decode cX8_isKept 9 = .ok (.ireturn, 1) := by decide +kernel
theorem dX8_hasStep_0 : decode cX8_hasStep 0 = .ok (.aload_n 0, 1) := by decide +kernel
theorem dX8_hasStep_1 : decode cX8_hasStep 1 = .ok (.iload_n 1, 1) := by decide +kernel
theorem dX8_hasStep_2 : decode cX8_hasStep 2 = .ok (.invokevirtual 124, 3) := by decide +kernel
theorem dX8_hasStep_5 : decode cX8_hasStep 5 = .ok (.ifCond .eq 24, 3) := by decide +kernel
theorem dX8_hasStep_8 : decode cX8_hasStep 8 = .ok (.iload_n 2, 1) := by decide +kernel
theorem dX8_hasStep_9 : decode cX8_hasStep 9 = .ok (.i2l, 1) := by decide +kernel
theorem dX8_hasStep_10 : decode cX8_hasStep 10 = .ok (.aload_n 0, 1) := by decide +kernel
theorem dX8_hasStep_11 : decode cX8_hasStep 11 = .ok (.getfield 27, 3) := by decide +kernel
theorem dX8_hasStep_14 : decode cX8_hasStep 14 = .ok (.iload_n 1, 1) := by decide +kernel
theorem dX8_hasStep_15 : decode cX8_hasStep 15 = .ok (.aaload, 1) := by decide +kernel
theorem dX8_hasStep_16 : decode cX8_hasStep 16 = .ok (.getfield 192, 3) := by decide +kernel
theorem dX8_hasStep_19 : decode cX8_hasStep 19 = .ok (.invokestatic 55, 3) := by decide +kernel
theorem dX8_hasStep_22 : decode cX8_hasStep 22 = .ok (.ifCond .eq 7, 3) := by decide +kernel
theorem dX8_hasStep_25 : decode cX8_hasStep 25 = .ok (.iconst 1, 1) := by decide +kernel
theorem dX8_hasStep_26 : decode cX8_hasStep 26 = .ok (.goto 4, 3) := by decide +kernel
theorem dX8_hasStep_29 : decode cX8_hasStep 29 = .ok (.iconst 0, 1) := by decide +kernel
theorem dX8_hasStep_30 : decode cX8_hasStep 30 = .ok (.ireturn, 1) := by decide +kernel
theorem dX8_digestOfState_0 : decode cX8_digestOfState 0 = .ok (.aload_n 0, 1) := by decide +kernel
theorem dX8_digestOfState_1 : decode cX8_digestOfState 1 = .ok (.getfield 20, 3) := by decide +kernel
theorem dX8_digestOfState_4 : decode cX8_digestOfState 4 = .ok (.getfield 72, 3) := by decide +kernel
theorem dX8_digestOfState_7 : decode cX8_digestOfState 7 = .ok (.bipush 9, 2) := by decide +kernel
theorem dX8_digestOfState_9 : decode cX8_digestOfState 9 = .ok (.imul, 1) := by decide +kernel
theorem dX8_digestOfState_10 : decode cX8_digestOfState 10 = .ok (.aload_n 1, 1) := by decide +kernel
theorem dX8_digestOfState_11 : decode cX8_digestOfState 11 = .ok (.arraylength, 1) := by decide +kernel
theorem dX8_digestOfState_12 : decode cX8_digestOfState 12 = .ok (.invokestatic 211, 3) := by decide +kernel
theorem dX8_digestOfState_15 : decode cX8_digestOfState 15 = .ok (.istore_n 2, 1) := by decide +kernel
theorem dX8_digestOfState_16 : decode cX8_digestOfState 16 = .ok (.ldc2_w 230, 3) := by decide +kernel
theorem dX8_digestOfState_19 : decode cX8_digestOfState 19 = .ok (.lstore_n 3, 1) := by decide +kernel
theorem dX8_digestOfState_20 : decode cX8_digestOfState 20 = .ok (.iconst 0, 1) := by decide +kernel
theorem dX8_digestOfState_21 : decode cX8_digestOfState 21 = .ok (.istore 5, 2) := by decide +kernel
theorem dX8_digestOfState_23 : decode cX8_digestOfState 23 = .ok (.iload 5, 2) := by decide +kernel
theorem dX8_digestOfState_25 : decode cX8_digestOfState 25 = .ok (.iload_n 2, 1) := by decide +kernel
theorem dX8_digestOfState_26 : decode cX8_digestOfState 26 = .ok (.if_icmp .ge 18, 3) := by decide +kernel
theorem dX8_digestOfState_29 : decode cX8_digestOfState 29 = .ok (.lload_n 3, 1) := by decide +kernel
theorem dX8_digestOfState_30 : decode cX8_digestOfState 30 = .ok (.aload_n 1, 1) := by decide +kernel
theorem dX8_digestOfState_31 : decode cX8_digestOfState 31 = .ok (.iload 5, 2) := by decide +kernel
theorem dX8_digestOfState_33 : decode cX8_digestOfState 33 = .ok (.laload, 1) := by decide +kernel
theorem dX8_digestOfState_34 : decode cX8_digestOfState 34 = .ok (.invokestatic 232, 3) := by decide +kernel
theorem dX8_digestOfState_37 : decode cX8_digestOfState 37 = .ok (.lstore_n 3, 1) := by decide +kernel
theorem dX8_digestOfState_38 : decode cX8_digestOfState 38 = .ok (.iinc 5 1, 3) := by decide +kernel
theorem dX8_digestOfState_41 : decode cX8_digestOfState 41 = .ok (.goto (-18), 3) := by decide +kernel
theorem dX8_digestOfState_44 : decode cX8_digestOfState 44 = .ok (.lload_n 3, 1) := by decide +kernel
theorem dX8_digestOfState_45 : decode cX8_digestOfState 45 = .ok (.lreturn, 1) := by decide +kernel
theorem dX8_digestWith_0 : decode cX8_digestWith 0 = .ok (.lload_n 0, 1) := by decide +kernel
theorem dX8_digestWith_1 : decode cX8_digestWith 1 = .ok (.lload_n 2, 1) := by decide +kernel
theorem dX8_digestWith_2 : decode cX8_digestWith 2 = .ok (.lxor, 1) := by decide +kernel
theorem dX8_digestWith_3 : decode cX8_digestWith 3 = .ok (.ldc2_w 236, 3) := by decide +kernel
theorem dX8_digestWith_6 : decode cX8_digestWith 6 = .ok (.lmul, 1) := by decide +kernel
theorem dX8_digestWith_7 : decode cX8_digestWith 7 = .ok (.lstore 4, 2) := by decide +kernel
theorem dX8_digestWith_9 : decode cX8_digestWith 9 = .ok (.lload 4, 2) := by decide +kernel
theorem dX8_digestWith_11 : decode cX8_digestWith 11 = .ok (.lload 4, 2) := by decide +kernel
theorem dX8_digestWith_13 : decode cX8_digestWith 13 = .ok (.bipush 29, 2) := by decide +kernel
theorem dX8_digestWith_15 : decode cX8_digestWith 15 = .ok (.lushr, 1) := by decide +kernel
theorem dX8_digestWith_16 : decode cX8_digestWith 16 = .ok (.lxor, 1) := by decide +kernel
theorem dX8_digestWith_17 : decode cX8_digestWith 17 = .ok (.lreturn, 1) := by decide +kernel
theorem dX8_isWithin_0 : decode cX8_isWithin 0 = .ok (.lload_n 0, 1) := by decide +kernel
theorem dX8_isWithin_1 : decode cX8_isWithin 1 = .ok (.lconst 0, 1) := by decide +kernel
theorem dX8_isWithin_2 : decode cX8_isWithin 2 = .ok (.lcmp, 1) := by decide +kernel
theorem dX8_isWithin_3 : decode cX8_isWithin 3 = .ok (.ifCond .lt 14, 3) := by decide +kernel
theorem dX8_isWithin_6 : decode cX8_isWithin 6 = .ok (.lload_n 0, 1) := by decide +kernel
theorem dX8_isWithin_7 : decode cX8_isWithin 7 = .ok (.iload_n 2, 1) := by decide +kernel
theorem dX8_isWithin_8 : decode cX8_isWithin 8 = .ok (.i2l, 1) := by decide +kernel
theorem dX8_isWithin_9 : decode cX8_isWithin 9 = .ok (.lcmp, 1) := by decide +kernel
theorem dX8_isWithin_10 : decode cX8_isWithin 10 = .ok (.ifCond .ge 7, 3) := by decide +kernel
theorem dX8_isWithin_13 : decode cX8_isWithin 13 = .ok (.iconst 1, 1) := by decide +kernel
theorem dX8_isWithin_14 : decode cX8_isWithin 14 = .ok (.goto 4, 3) := by decide +kernel
theorem dX8_isWithin_17 : decode cX8_isWithin 17 = .ok (.iconst 0, 1) := by decide +kernel
theorem dX8_isWithin_18 : decode cX8_isWithin 18 = .ok (.ireturn, 1) := by decide +kernel
theorem dX8_cellPlace_0 : decode cX8_cellPlace 0 = .ok (.iload_n 0, 1) := by decide +kernel
theorem dX8_cellPlace_1 : decode cX8_cellPlace 1 = .ok (.bipush 9, 2) := by decide +kernel
theorem dX8_cellPlace_3 : decode cX8_cellPlace 3 = .ok (.imul, 1) := by decide +kernel
theorem dX8_cellPlace_4 : decode cX8_cellPlace 4 = .ok (.iload_n 1, 1) := by decide +kernel
theorem dX8_cellPlace_5 : decode cX8_cellPlace 5 = .ok (.iadd, 1) := by decide +kernel
theorem dX8_cellPlace_6 : decode cX8_cellPlace 6 = .ok (.ireturn, 1) := by decide +kernel
theorem dX8_balancePlace_0 : decode cX8_balancePlace 0 = .ok (.iload_n 0, 1) := by decide +kernel
theorem dX8_balancePlace_1 : decode cX8_balancePlace 1 = .ok (.bipush 9, 2) := by decide +kernel
theorem dX8_balancePlace_3 : decode cX8_balancePlace 3 = .ok (.imul, 1) := by decide +kernel
theorem dX8_balancePlace_4 : decode cX8_balancePlace 4 = .ok (.bipush 8, 2) := by decide +kernel
theorem dX8_balancePlace_6 : decode cX8_balancePlace 6 = .ok (.iadd, 1) := by decide +kernel
theorem dX8_balancePlace_7 : decode cX8_balancePlace 7 = .ok (.ireturn, 1) := by decide +kernel
theorem dX9_init_0 : decode cX9_init 0 = .ok (.aload_n 0, 1) := by decide +kernel
theorem dX9_init_1 : decode cX9_init 1 = .ok (.invokespecial 1, 3) := by decide +kernel
theorem dX9_init_4 : decode cX9_init 4 = .ok (.aload_n 0, 1) := by decide +kernel
theorem dX9_init_5 : decode cX9_init 5 = .ok (.bipush 8, 2) := by decide +kernel
theorem dX9_init_7 : decode cX9_init 7 = .ok (.newarray .int, 2) := by decide +kernel
theorem dX9_init_9 : decode cX9_init 9 = .ok (.putfield 7, 3) := by decide +kernel
theorem dX9_init_12 : decode cX9_init 12 = .ok (.aload_n 0, 1) := by decide +kernel
theorem dX9_init_13 : decode cX9_init 13 = .ok (.sipush 160, 3) := by decide +kernel
theorem dX9_init_16 : decode cX9_init 16 = .ok (.newarray .int, 2) := by decide +kernel
theorem dX9_init_18 : decode cX9_init 18 = .ok (.putfield 13, 3) := by decide +kernel
theorem dX9_init_21 : decode cX9_init 21 = .ok (.aload_n 0, 1) := by decide +kernel
theorem dX9_init_22 : decode cX9_init 22 = .ok (.sipush 160, 3) := by decide +kernel
theorem dX9_init_25 : decode cX9_init 25 = .ok (.newarray .long, 2) := by decide +kernel
theorem dX9_init_27 : decode cX9_init 27 = .ok (.putfield 16, 3) := by decide +kernel
theorem dX9_init_30 : decode cX9_init 30 = .ok (.aload_n 0, 1) := by decide +kernel
theorem dX9_init_31 : decode cX9_init 31 = .ok (.sipush 160, 3) := by decide +kernel
theorem dX9_init_34 : decode cX9_init 34 = .ok (.newarray .int, 2) := by decide +kernel
theorem dX9_init_36 : decode cX9_init 36 = .ok (.putfield 20, 3) := by decide +kernel
theorem dX9_init_39 : decode cX9_init 39 = .ok (.aload_n 0, 1) := by decide +kernel
theorem dX9_init_40 : decode cX9_init 40 = .ok (.bipush 24, 2) := by decide +kernel
theorem dX9_init_42 : decode cX9_init 42 = .ok (.newarray .int, 2) := by decide +kernel
theorem dX9_init_44 : decode cX9_init 44 = .ok (.putfield 23, 3) := by decide +kernel
theorem dX9_init_47 : decode cX9_init 47 = .ok (.aload_n 0, 1) := by decide +kernel
theorem dX9_init_48 : decode cX9_init 48 = .ok (.bipush 16, 2) := by decide +kernel
theorem dX9_init_50 : decode cX9_init 50 = .ok (.newarray .int, 2) := by decide +kernel
theorem dX9_init_52 : decode cX9_init 52 = .ok (.dup, 1) := by decide +kernel
theorem dX9_init_53 : decode cX9_init 53 = .ok (.iconst 0, 1) := by decide +kernel
theorem dX9_init_54 : decode cX9_init 54 = .ok (.iconst 1, 1) := by decide +kernel
theorem dX9_init_55 : decode cX9_init 55 = .ok (.iastore, 1) := by decide +kernel
theorem dX9_init_56 : decode cX9_init 56 = .ok (.dup, 1) := by decide +kernel
theorem dX9_init_57 : decode cX9_init 57 = .ok (.iconst 1, 1) := by decide +kernel
theorem dX9_init_58 : decode cX9_init 58 = .ok (.iconst 1, 1) := by decide +kernel
theorem dX9_init_59 : decode cX9_init 59 = .ok (.iastore, 1) := by decide +kernel
theorem dX9_init_60 : decode cX9_init 60 = .ok (.dup, 1) := by decide +kernel
theorem dX9_init_61 : decode cX9_init 61 = .ok (.iconst 2, 1) := by decide +kernel
theorem dX9_init_62 : decode cX9_init 62 = .ok (.iconst 1, 1) := by decide +kernel
theorem dX9_init_63 : decode cX9_init 63 = .ok (.iastore, 1) := by decide +kernel
theorem dX9_init_64 : decode cX9_init 64 = .ok (.dup, 1) := by decide +kernel
theorem dX9_init_65 : decode cX9_init 65 = .ok (.iconst 3, 1) := by decide +kernel
theorem dX9_init_66 : decode cX9_init 66 = .ok (.iconst 1, 1) := by decide +kernel
theorem dX9_init_67 : decode cX9_init 67 = .ok (.iastore, 1) := by decide +kernel
theorem dX9_init_68 : decode cX9_init 68 = .ok (.dup, 1) := by decide +kernel
theorem dX9_init_69 : decode cX9_init 69 = .ok (.iconst 4, 1) := by decide +kernel
theorem dX9_init_70 : decode cX9_init 70 = .ok (.iconst 1, 1) := by decide +kernel
theorem dX9_init_71 : decode cX9_init 71 = .ok (.iastore, 1) := by decide +kernel
theorem dX9_init_72 : decode cX9_init 72 = .ok (.dup, 1) := by decide +kernel
theorem dX9_init_73 : decode cX9_init 73 = .ok (.iconst 5, 1) := by decide +kernel
theorem dX9_init_74 : decode cX9_init 74 = .ok (.iconst 1, 1) := by decide +kernel
theorem dX9_init_75 : decode cX9_init 75 = .ok (.iastore, 1) := by decide +kernel
theorem dX9_init_76 : decode cX9_init 76 = .ok (.dup, 1) := by decide +kernel
theorem dX9_init_77 : decode cX9_init 77 = .ok (.bipush 6, 2) := by decide +kernel
theorem dX9_init_79 : decode cX9_init 79 = .ok (.iconst 1, 1) := by decide +kernel
theorem dX9_init_80 : decode cX9_init 80 = .ok (.iastore, 1) := by decide +kernel
theorem dX9_init_81 : decode cX9_init 81 = .ok (.dup, 1) := by decide +kernel
theorem dX9_init_82 : decode cX9_init 82 = .ok (.bipush 7, 2) := by decide +kernel
theorem dX9_init_84 : decode cX9_init 84 = .ok (.iconst 1, 1) := by decide +kernel
theorem dX9_init_85 : decode cX9_init 85 = .ok (.iastore, 1) := by decide +kernel
theorem dX9_init_86 : decode cX9_init 86 = .ok (.dup, 1) := by decide +kernel
theorem dX9_init_87 : decode cX9_init 87 = .ok (.bipush 8, 2) := by decide +kernel
theorem dX9_init_89 : decode cX9_init 89 = .ok (.iconst 1, 1) := by decide +kernel
theorem dX9_init_90 : decode cX9_init 90 = .ok (.iastore, 1) := by decide +kernel
theorem dX9_init_91 : decode cX9_init 91 = .ok (.dup, 1) := by decide +kernel
theorem dX9_init_92 : decode cX9_init 92 = .ok (.bipush 9, 2) := by decide +kernel
theorem dX9_init_94 : decode cX9_init 94 = .ok (.iconst 1, 1) := by decide +kernel
theorem dX9_init_95 : decode cX9_init 95 = .ok (.iastore, 1) := by decide +kernel
theorem dX9_init_96 : decode cX9_init 96 = .ok (.dup, 1) := by decide +kernel
theorem dX9_init_97 : decode cX9_init 97 = .ok (.bipush 10, 2) := by decide +kernel
theorem dX9_init_99 : decode cX9_init 99 = .ok (.iconst 1, 1) := by decide +kernel
theorem dX9_init_100 : decode cX9_init 100 = .ok (.iastore, 1) := by decide +kernel
theorem dX9_init_101 : decode cX9_init 101 = .ok (.dup, 1) := by decide +kernel
theorem dX9_init_102 : decode cX9_init 102 = .ok (.bipush 11, 2) := by decide +kernel
theorem dX9_init_104 : decode cX9_init 104 = .ok (.iconst 1, 1) := by decide +kernel
theorem dX9_init_105 : decode cX9_init 105 = .ok (.iastore, 1) := by decide +kernel
theorem dX9_init_106 : decode cX9_init 106 = .ok (.dup, 1) := by decide +kernel
theorem dX9_init_107 : decode cX9_init 107 = .ok (.bipush 12, 2) := by decide +kernel
theorem dX9_init_109 : decode cX9_init 109 = .ok (.iconst 1, 1) := by decide +kernel
theorem dX9_init_110 : decode cX9_init 110 = .ok (.iastore, 1) := by decide +kernel
theorem dX9_init_111 : decode cX9_init 111 = .ok (.dup, 1) := by decide +kernel
theorem dX9_init_112 : decode cX9_init 112 = .ok (.bipush 13, 2) := by decide +kernel
theorem dX9_init_114 : decode cX9_init 114 = .ok (.iconst 1, 1) := by decide +kernel
theorem dX9_init_115 : decode cX9_init 115 = .ok (.iastore, 1) := by decide +kernel
theorem dX9_init_116 : decode cX9_init 116 = .ok (.dup, 1) := by decide +kernel
theorem dX9_init_117 : decode cX9_init 117 = .ok (.bipush 14, 2) := by decide +kernel
theorem dX9_init_119 : decode cX9_init 119 = .ok (.iconst 1, 1) := by decide +kernel
theorem dX9_init_120 : decode cX9_init 120 = .ok (.iastore, 1) := by decide +kernel
theorem dX9_init_121 : decode cX9_init 121 = .ok (.dup, 1) := by decide +kernel
theorem dX9_init_122 : decode cX9_init 122 = .ok (.bipush 15, 2) := by decide +kernel
theorem dX9_init_124 : decode cX9_init 124 = .ok (.iconst 1, 1) := by decide +kernel
theorem dX9_init_125 : decode cX9_init 125 = .ok (.iastore, 1) := by decide +kernel
theorem dX9_init_126 : decode cX9_init 126 = .ok (.putfield 26, 3) := by decide +kernel
theorem dX9_init_129 : decode cX9_init 129 = .ok (.aload_n 0, 1) := by decide +kernel
theorem dX9_init_130 : decode cX9_init 130 = .ok (.bipush 48, 2) := by decide +kernel
theorem dX9_init_132 : decode cX9_init 132 = .ok (.newarray .long, 2) := by decide +kernel
theorem dX9_init_134 : decode cX9_init 134 = .ok (.putfield 29, 3) := by decide +kernel
theorem dX9_init_137 : decode cX9_init 137 = .ok (.aload_n 0, 1) := by decide +kernel
theorem dX9_init_138 : decode cX9_init 138 = .ok (.bipush 6, 2) := by decide +kernel
theorem dX9_init_140 : decode cX9_init 140 = .ok (.newarray .long, 2) := by decide +kernel
theorem dX9_init_142 : decode cX9_init 142 = .ok (.putfield 32, 3) := by decide +kernel
theorem dX9_init_145 : decode cX9_init 145 = .ok (.aload_n 0, 1) := by decide +kernel
theorem dX9_init_146 : decode cX9_init 146 = .ok (.bipush 8, 2) := by decide +kernel
theorem dX9_init_148 : decode cX9_init 148 = .ok (.newarray .int, 2) := by decide +kernel
theorem dX9_init_150 : decode cX9_init 150 = .ok (.putfield 35, 3) := by decide +kernel
theorem dX9_init_153 : decode cX9_init 153 = .ok (.aload_n 0, 1) := by decide +kernel
theorem dX9_init_154 : decode cX9_init 154 = .ok (.bipush 8, 2) := by decide +kernel
theorem dX9_init_156 : decode cX9_init 156 = .ok (.newarray .int, 2) := by decide +kernel
theorem dX9_init_158 : decode cX9_init 158 = .ok (.putfield 38, 3) := by decide +kernel
theorem dX9_init_161 : decode cX9_init 161 = .ok (.aload_n 0, 1) := by decide +kernel
theorem dX9_init_162 : decode cX9_init 162 = .ok (.bipush 8, 2) := by decide +kernel
theorem dX9_init_164 : decode cX9_init 164 = .ok (.newarray .long, 2) := by decide +kernel
theorem dX9_init_166 : decode cX9_init 166 = .ok (.putfield 41, 3) := by decide +kernel
theorem dX9_init_169 : decode cX9_init 169 = .ok (.aload_n 0, 1) := by decide +kernel
theorem dX9_init_170 : decode cX9_init 170 = .ok (.bipush 8, 2) := by decide +kernel
theorem dX9_init_172 : decode cX9_init 172 = .ok (.newarray .int, 2) := by decide +kernel
theorem dX9_init_174 : decode cX9_init 174 = .ok (.putfield 44, 3) := by decide +kernel
theorem dX9_init_177 : decode cX9_init 177 = .ok (.aload_n 0, 1) := by decide +kernel
theorem dX9_init_178 : decode cX9_init 178 = .ok (.sipush 384, 3) := by decide +kernel
theorem dX9_init_181 : decode cX9_init 181 = .ok (.newarray .long, 2) := by decide +kernel
theorem dX9_init_183 : decode cX9_init 183 = .ok (.putfield 47, 3) := by decide +kernel
theorem dX9_init_186 : decode cX9_init 186 = .ok (.aload_n 0, 1) := by decide +kernel
theorem dX9_init_187 : decode cX9_init 187 = .ok (.bipush 48, 2) := by decide +kernel
theorem dX9_init_189 : decode cX9_init 189 = .ok (.newarray .long, 2) := by decide +kernel
theorem dX9_init_191 : decode cX9_init 191 = .ok (.putfield 50, 3) := by decide +kernel
theorem dX9_init_194 : decode cX9_init 194 = .ok (.aload_n 0, 1) := by decide +kernel
theorem dX9_init_195 : decode cX9_init 195 = .ok (.bipush 8, 2) := by decide +kernel
theorem dX9_init_197 : decode cX9_init 197 = .ok (.newarray .int, 2) := by decide +kernel
theorem dX9_init_199 : decode cX9_init 199 = .ok (.putfield 53, 3) := by decide +kernel
theorem dX9_init_202 : decode cX9_init 202 = .ok (.aload_n 0, 1) := by decide +kernel
theorem dX9_init_203 : decode cX9_init 203 = .ok (.bipush 8, 2) := by decide +kernel
theorem dX9_init_205 : decode cX9_init 205 = .ok (.newarray .int, 2) := by decide +kernel
theorem dX9_init_207 : decode cX9_init 207 = .ok (.putfield 56, 3) := by decide +kernel
theorem dX9_init_210 : decode cX9_init 210 = .ok (.aload_n 0, 1) := by decide +kernel
theorem dX9_init_211 : decode cX9_init 211 = .ok (.bipush 8, 2) := by decide +kernel
theorem dX9_init_213 : decode cX9_init 213 = .ok (.newarray .int, 2) := by decide +kernel
theorem dX9_init_215 : decode cX9_init 215 = .ok (.putfield 59, 3) := by decide +kernel
theorem dX9_init_218 : decode cX9_init 218 = .ok (.aload_n 0, 1) := by decide +kernel
theorem dX9_init_219 : decode cX9_init 219 = .ok (.bipush 8, 2) := by decide +kernel
theorem dX9_init_221 : decode cX9_init 221 = .ok (.newarray .long, 2) := by decide +kernel
theorem dX9_init_223 : decode cX9_init 223 = .ok (.putfield 62, 3) := by decide +kernel
theorem dX9_init_226 : decode cX9_init 226 = .ok (.aload_n 0, 1) := by decide +kernel
theorem dX9_init_227 : decode cX9_init 227 = .ok (.bipush 8, 2) := by decide +kernel
theorem dX9_init_229 : decode cX9_init 229 = .ok (.newarray .int, 2) := by decide +kernel
theorem dX9_init_231 : decode cX9_init 231 = .ok (.putfield 65, 3) := by decide +kernel
theorem dX9_init_234 : decode cX9_init 234 = .ok (.aload_n 0, 1) := by decide +kernel
theorem dX9_init_235 : decode cX9_init 235 = .ok (.bipush 8, 2) := by decide +kernel
theorem dX9_init_237 : decode cX9_init 237 = .ok (.newarray .int, 2) := by decide +kernel
theorem dX9_init_239 : decode cX9_init 239 = .ok (.putfield 68, 3) := by decide +kernel
theorem dX9_init_242 : decode cX9_init 242 = .ok (.aload_n 0, 1) := by decide +kernel
theorem dX9_init_243 : decode cX9_init 243 = .ok (.sipush 5600, 3) := by decide +kernel
theorem dX9_init_246 : decode cX9_init 246 = .ok (.newarray .int, 2) := by decide +kernel
theorem dX9_init_248 : decode cX9_init 248 = .ok (.putfield 71, 3) := by decide +kernel
theorem dX9_init_251 : decode cX9_init 251 = .ok (.aload_n 0, 1) := by decide +kernel
theorem dX9_init_252 : decode cX9_init 252 = .ok (.sipush 800, 3) := by decide +kernel
theorem dX9_init_255 : decode cX9_init 255 = .ok (.newarray .long, 2) := by decide +kernel
theorem dX9_init_257 : decode cX9_init 257 = .ok (.putfield 74, 3) := by decide +kernel
theorem dX9_init_260 : decode cX9_init 260 = .ok (.aload_n 0, 1) := by decide +kernel
theorem dX9_init_261 : decode cX9_init 261 = .ok (.sipush 800, 3) := by decide +kernel
theorem dX9_init_264 : decode cX9_init 264 = .ok (.newarray .int, 2) := by decide +kernel
theorem dX9_init_266 : decode cX9_init 266 = .ok (.putfield 77, 3) := by decide +kernel
theorem dX9_init_269 : decode cX9_init 269 = .ok (.aload_n 0, 1) := by decide +kernel
theorem dX9_init_270 : decode cX9_init 270 = .ok (.sipush 808, 3) := by decide +kernel
theorem dX9_init_273 : decode cX9_init 273 = .ok (.newarray .int, 2) := by decide +kernel
theorem dX9_init_275 : decode cX9_init 275 = .ok (.putfield 80, 3) := by decide +kernel
theorem dX9_init_278 : decode cX9_init 278 = .ok (.aload_n 0, 1) := by decide +kernel
theorem dX9_init_279 : decode cX9_init 279 = .ok (.sipush 808, 3) := by decide +kernel
theorem dX9_init_282 : decode cX9_init 282 = .ok (.newarray .int, 2) := by decide +kernel
theorem dX9_init_284 : decode cX9_init 284 = .ok (.putfield 83, 3) := by decide +kernel
theorem dX9_init_287 : decode cX9_init 287 = .ok (.aload_n 0, 1) := by decide +kernel
theorem dX9_init_288 : decode cX9_init 288 = .ok (.sipush 808, 3) := by decide +kernel
theorem dX9_init_291 : decode cX9_init 291 = .ok (.newarray .int, 2) := by decide +kernel
theorem dX9_init_293 : decode cX9_init 293 = .ok (.putfield 86, 3) := by decide +kernel
theorem dX9_init_296 : decode cX9_init 296 = .ok (.aload_n 0, 1) := by decide +kernel
theorem dX9_init_297 : decode cX9_init 297 = .ok (.bipush 8, 2) := by decide +kernel
theorem dX9_init_299 : decode cX9_init 299 = .ok (.newarray .int, 2) := by decide +kernel
theorem dX9_init_301 : decode cX9_init 301 = .ok (.putfield 89, 3) := by decide +kernel
theorem dX9_init_304 : decode cX9_init 304 = .ok (.aload_n 0, 1) := by decide +kernel
theorem dX9_init_305 : decode cX9_init 305 = .ok (.sipush 1536, 3) := by decide +kernel
theorem dX9_init_308 : decode cX9_init 308 = .ok (.newarray .int, 2) := by decide +kernel
theorem dX9_init_310 : decode cX9_init 310 = .ok (.putfield 92, 3) := by decide +kernel
theorem dX9_init_313 : decode cX9_init 313 = .ok (.aload_n 0, 1) := by decide +kernel
theorem dX9_init_314 : decode cX9_init 314 = .ok (.bipush 8, 2) := by decide +kernel
theorem dX9_init_316 : decode cX9_init 316 = .ok (.newarray .int, 2) := by decide +kernel
theorem dX9_init_318 : decode cX9_init 318 = .ok (.putfield 95, 3) := by decide +kernel
theorem dX9_init_321 : decode cX9_init 321 = .ok (.aload_n 0, 1) := by decide +kernel
theorem dX9_init_322 : decode cX9_init 322 = .ok (.sipush 320, 3) := by decide +kernel
theorem dX9_init_325 : decode cX9_init 325 = .ok (.newarray .int, 2) := by decide +kernel
theorem dX9_init_327 : decode cX9_init 327 = .ok (.putfield 98, 3) := by decide +kernel
theorem dX9_init_330 : decode cX9_init 330 = .ok (.aload_n 0, 1) := by decide +kernel
theorem dX9_init_331 : decode cX9_init 331 = .ok (.sipush 320, 3) := by decide +kernel
theorem dX9_init_334 : decode cX9_init 334 = .ok (.newarray .long, 2) := by decide +kernel
theorem dX9_init_336 : decode cX9_init 336 = .ok (.putfield 101, 3) := by decide +kernel
theorem dX9_init_339 : decode cX9_init 339 = .ok (.aload_n 0, 1) := by decide +kernel
theorem dX9_init_340 : decode cX9_init 340 = .ok (.sipush 320, 3) := by decide +kernel
theorem dX9_init_343 : decode cX9_init 343 = .ok (.newarray .long, 2) := by decide +kernel
theorem dX9_init_345 : decode cX9_init 345 = .ok (.putfield 104, 3) := by decide +kernel
theorem dX9_init_348 : decode cX9_init 348 = .ok (.aload_n 0, 1) := by decide +kernel
theorem dX9_init_349 : decode cX9_init 349 = .ok (.bipush 48, 2) := by decide +kernel
theorem dX9_init_351 : decode cX9_init 351 = .ok (.newarray .long, 2) := by decide +kernel
theorem dX9_init_353 : decode cX9_init 353 = .ok (.putfield 107, 3) := by decide +kernel
theorem dX9_init_356 : decode cX9_init 356 = .ok (.aload_n 0, 1) := by decide +kernel
theorem dX9_init_357 : decode cX9_init 357 = .ok (.bipush 48, 2) := by decide +kernel
theorem dX9_init_359 : decode cX9_init 359 = .ok (.newarray .long, 2) := by decide +kernel
theorem dX9_init_361 : decode cX9_init 361 = .ok (.putfield 110, 3) := by decide +kernel
theorem dX9_init_364 : decode cX9_init 364 = .ok (.aload_n 0, 1) := by decide +kernel
theorem dX9_init_365 : decode cX9_init 365 = .ok (.bipush 7, 2) := by decide +kernel
theorem dX9_init_367 : decode cX9_init 367 = .ok (.newarray .int, 2) := by decide +kernel
theorem dX9_init_369 : decode cX9_init 369 = .ok (.putfield 113, 3) := by decide +kernel
theorem dX9_init_372 : decode cX9_init 372 = .ok (.aload_n 0, 1) := by decide +kernel
theorem dX9_init_373 : decode cX9_init 373 = .ok (.bipush 7, 2) := by decide +kernel
theorem dX9_init_375 : decode cX9_init 375 = .ok (.newarray .int, 2) := by decide +kernel
theorem dX9_init_377 : decode cX9_init 377 = .ok (.putfield 116, 3) := by decide +kernel
theorem dX9_init_380 : decode cX9_init 380 = .ok (.aload_n 0, 1) := by decide +kernel
theorem dX9_init_381 : decode cX9_init 381 = .ok (.bipush 7, 2) := by decide +kernel
theorem dX9_init_383 : decode cX9_init 383 = .ok (.newarray .int, 2) := by decide +kernel
theorem dX9_init_385 : decode cX9_init 385 = .ok (.putfield 119, 3) := by decide +kernel
theorem dX9_init_388 : decode cX9_init 388 = .ok (.aload_n 0, 1) := by decide +kernel
theorem dX9_init_389 : decode cX9_init 389 = .ok (.bipush 7, 2) := by decide +kernel
theorem dX9_init_391 : decode cX9_init 391 = .ok (.newarray .int, 2) := by decide +kernel
theorem dX9_init_393 : decode cX9_init 393 = .ok (.putfield 122, 3) := by decide +kernel
theorem dX9_init_396 : decode cX9_init 396 = .ok (.aload_n 0, 1) := by decide +kernel
theorem dX9_init_397 : decode cX9_init 397 = .ok (.bipush 7, 2) := by decide +kernel
theorem dX9_init_399 : decode cX9_init 399 = .ok (.newarray .long, 2) := by decide +kernel
theorem dX9_init_401 : decode cX9_init 401 = .ok (.putfield 125, 3) := by decide +kernel
theorem dX9_init_404 : decode cX9_init 404 = .ok (.aload_n 0, 1) := by decide +kernel
theorem dX9_init_405 : decode cX9_init 405 = .ok (.bipush 7, 2) := by decide +kernel
theorem dX9_init_407 : decode cX9_init 407 = .ok (.newarray .int, 2) := by decide +kernel
theorem dX9_init_409 : decode cX9_init 409 = .ok (.putfield 128, 3) := by decide +kernel
theorem dX9_init_412 : decode cX9_init 412 = .ok (.aload_n 0, 1) := by decide +kernel
theorem dX9_init_413 : decode cX9_init 413 = .ok (.bipush 7, 2) := by decide +kernel
theorem dX9_init_415 : decode cX9_init 415 = .ok (.newarray .boolean, 2) := by decide +kernel
theorem dX9_init_417 : decode cX9_init 417 = .ok (.putfield 131, 3) := by decide +kernel
theorem dX9_init_420 : decode cX9_init 420 = .ok (.aload_n 0, 1) := by decide +kernel
theorem dX9_init_421 : decode cX9_init 421 = .ok (.bipush 7, 2) := by decide +kernel
theorem dX9_init_423 : decode cX9_init 423 = .ok (.newarray .int, 2) := by decide +kernel
theorem dX9_init_425 : decode cX9_init 425 = .ok (.putfield 135, 3) := by decide +kernel
theorem dX9_init_428 : decode cX9_init 428 = .ok (.aload_n 0, 1) := by decide +kernel
theorem dX9_init_429 : decode cX9_init 429 = .ok (.bipush 84, 2) := by decide +kernel
theorem dX9_init_431 : decode cX9_init 431 = .ok (.newarray .long, 2) := by decide +kernel
theorem dX9_init_433 : decode cX9_init 433 = .ok (.putfield 138, 3) := by decide +kernel
theorem dX9_init_436 : decode cX9_init 436 = .ok (.aload_n 0, 1) := by decide +kernel
theorem dX9_init_437 : decode cX9_init 437 = .ok (.sipush 336, 3) := by decide +kernel
theorem dX9_init_440 : decode cX9_init 440 = .ok (.newarray .long, 2) := by decide +kernel
theorem dX9_init_442 : decode cX9_init 442 = .ok (.putfield 141, 3) := by decide +kernel
theorem dX9_init_445 : decode cX9_init 445 = .ok (.aload_n 0, 1) := by decide +kernel
theorem dX9_init_446 : decode cX9_init 446 = .ok (.bipush 42, 2) := by decide +kernel
theorem dX9_init_448 : decode cX9_init 448 = .ok (.newarray .long, 2) := by decide +kernel
theorem dX9_init_450 : decode cX9_init 450 = .ok (.putfield 144, 3) := by decide +kernel
theorem dX9_init_453 : decode cX9_init 453 = .ok (.aload_n 0, 1) := by decide +kernel
theorem dX9_init_454 : decode cX9_init 454 = .ok (.bipush 42, 2) := by decide +kernel
theorem dX9_init_456 : decode cX9_init 456 = .ok (.newarray .long, 2) := by decide +kernel
theorem dX9_init_458 : decode cX9_init 458 = .ok (.putfield 147, 3) := by decide +kernel
theorem dX9_init_461 : decode cX9_init 461 = .ok (.aload_n 0, 1) := by decide +kernel
theorem dX9_init_462 : decode cX9_init 462 = .ok (.bipush 42, 2) := by decide +kernel
theorem dX9_init_464 : decode cX9_init 464 = .ok (.newarray .long, 2) := by decide +kernel
theorem dX9_init_466 : decode cX9_init 466 = .ok (.putfield 150, 3) := by decide +kernel
theorem dX9_init_469 : decode cX9_init 469 = .ok (.aload_n 0, 1) := by decide +kernel
theorem dX9_init_470 : decode cX9_init 470 = .ok (.bipush 7, 2) := by decide +kernel
theorem dX9_init_472 : decode cX9_init 472 = .ok (.newarray .int, 2) := by decide +kernel
theorem dX9_init_474 : decode cX9_init 474 = .ok (.putfield 153, 3) := by decide +kernel
theorem dX9_init_477 : decode cX9_init 477 = .ok (.aload_n 0, 1) := by decide +kernel
theorem dX9_init_478 : decode cX9_init 478 = .ok (.bipush 48, 2) := by decide +kernel
theorem dX9_init_480 : decode cX9_init 480 = .ok (.newarray .long, 2) := by decide +kernel
theorem dX9_init_482 : decode cX9_init 482 = .ok (.putfield 156, 3) := by decide +kernel
theorem dX9_init_485 : decode cX9_init 485 = .ok (.aload_n 0, 1) := by decide +kernel
theorem dX9_init_486 : decode cX9_init 486 = .ok (.bipush 6, 2) := by decide +kernel
theorem dX9_init_488 : decode cX9_init 488 = .ok (.newarray .long, 2) := by decide +kernel
theorem dX9_init_490 : decode cX9_init 490 = .ok (.putfield 159, 3) := by decide +kernel
theorem dX9_init_493 : decode cX9_init 493 = .ok (.aload_n 0, 1) := by decide +kernel
theorem dX9_init_494 : decode cX9_init 494 = .ok (.bipush 100, 2) := by decide +kernel
theorem dX9_init_496 : decode cX9_init 496 = .ok (.newarray .int, 2) := by decide +kernel
theorem dX9_init_498 : decode cX9_init 498 = .ok (.putfield 162, 3) := by decide +kernel
theorem dX9_init_501 : decode cX9_init 501 = .ok (.aload_n 0, 1) := by decide +kernel
theorem dX9_init_502 : decode cX9_init 502 = .ok (.bipush 20, 2) := by decide +kernel
theorem dX9_init_504 : decode cX9_init 504 = .ok (.newarray .int, 2) := by decide +kernel
theorem dX9_init_506 : decode cX9_init 506 = .ok (.putfield 165, 3) := by decide +kernel
theorem dX9_init_509 : decode cX9_init 509 = .ok (.return_, 1) := by decide +kernel
theorem dX9_in_0 : decode cX9_in 0 = .ok (.lload_n 0, 1) := by decide +kernel
theorem dX9_in_1 : decode cX9_in 1 = .ok (.lload_n 2, 1) := by decide +kernel
theorem dX9_in_2 : decode cX9_in 2 = .ok (.lcmp, 1) := by decide +kernel
theorem dX9_in_3 : decode cX9_in 3 = .ok (.ifCond .lt 14, 3) := by decide +kernel
theorem dX9_in_6 : decode cX9_in 6 = .ok (.lload_n 0, 1) := by decide +kernel
theorem dX9_in_7 : decode cX9_in 7 = .ok (.lload 4, 2) := by decide +kernel
theorem dX9_in_9 : decode cX9_in 9 = .ok (.lcmp, 1) := by decide +kernel
theorem dX9_in_10 : decode cX9_in 10 = .ok (.ifCond .gt 7, 3) := by decide +kernel
theorem dX9_in_13 : decode cX9_in 13 = .ok (.iconst 1, 1) := by decide +kernel
theorem dX9_in_14 : decode cX9_in 14 = .ok (.goto 4, 3) := by decide +kernel
theorem dX9_in_17 : decode cX9_in 17 = .ok (.iconst 0, 1) := by decide +kernel
theorem dX9_in_18 : decode cX9_in 18 = .ok (.ireturn, 1) := by decide +kernel
theorem dX9_isAccount_0 : decode cX9_isAccount 0 = .ok (.lload_n 1, 1) := by decide +kernel
theorem dX9_isAccount_1 : decode cX9_isAccount 1 = .ok (.lconst 0, 1) := by decide +kernel
theorem dX9_isAccount_2 : decode cX9_isAccount 2 = .ok (.aload_n 0, 1) := by decide +kernel
theorem dX9_isAccount_3 : decode cX9_isAccount 3 = .ok (.getfield 168, 3) := by decide +kernel
theorem dX9_isAccount_6 : decode cX9_isAccount 6 = .ok (.iconst 1, 1) := by decide +kernel
theorem dX9_isAccount_7 : decode cX9_isAccount 7 = .ok (.isub, 1) := by decide +kernel
theorem dX9_isAccount_8 : decode cX9_isAccount 8 = .ok (.i2l, 1) := by decide +kernel
theorem dX9_isAccount_9 : decode cX9_isAccount 9 = .ok (.invokestatic 172, 3) := by decide +kernel
theorem dX9_isAccount_12 : decode cX9_isAccount 12 = .ok (.ireturn, 1) := by decide +kernel
theorem dX9_isTrace_0 : decode cX9_isTrace 0 = .ok (.iload_n 1, 1) := by decide +kernel
theorem dX9_isTrace_1 : decode cX9_isTrace 1 = .ok (.i2l, 1) := by decide +kernel
theorem dX9_isTrace_2 : decode cX9_isTrace 2 = .ok (.lconst 0, 1) := by decide +kernel
theorem dX9_isTrace_3 : decode cX9_isTrace 3 = .ok (.aload_n 0, 1) := by decide +kernel
theorem dX9_isTrace_4 : decode cX9_isTrace 4 = .ok (.getfield 176, 3) := by decide +kernel
theorem dX9_isTrace_7 : decode cX9_isTrace 7 = .ok (.iconst 1, 1) := by decide +kernel
theorem dX9_isTrace_8 : decode cX9_isTrace 8 = .ok (.isub, 1) := by decide +kernel
theorem dX9_isTrace_9 : decode cX9_isTrace 9 = .ok (.i2l, 1) := by decide +kernel
theorem dX9_isTrace_10 : decode cX9_isTrace 10 = .ok (.invokestatic 172, 3) := by decide +kernel
theorem dX9_isTrace_13 : decode cX9_isTrace 13 = .ok (.ireturn, 1) := by decide +kernel
theorem dX9_program_0 : decode cX9_program 0 = .ok (.aload_n 0, 1) := by decide +kernel
theorem dX9_program_1 : decode cX9_program 1 = .ok (.getfield 179, 3) := by decide +kernel
theorem dX9_program_4 : decode cX9_program 4 = .ok (.bipush 8, 2) := by decide +kernel
theorem dX9_program_6 : decode cX9_program 6 = .ok (.if_icmp .ne 6, 3) := by decide +kernel
theorem dX9_program_9 : decode cX9_program 9 = .ok (.bipush (-4), 2) := by decide +kernel
theorem dX9_program_11 : decode cX9_program 11 = .ok (.ireturn, 1) := by decide +kernel
theorem dX9_program_12 : decode cX9_program 12 = .ok (.aload_n 0, 1) := by decide +kernel
theorem dX9_program_13 : decode cX9_program 13 = .ok (.getfield 7, 3) := by decide +kernel
theorem dX9_program_16 : decode cX9_program 16 = .ok (.aload_n 0, 1) := by decide +kernel
theorem dX9_program_17 : decode cX9_program 17 = .ok (.getfield 179, 3) := by decide +kernel
theorem dX9_program_20 : decode cX9_program 20 = .ok (.iconst 0, 1) := by decide +kernel
theorem dX9_program_21 : decode cX9_program 21 = .ok (.iastore, 1) := by decide +kernel
theorem dX9_program_22 : decode cX9_program 22 = .ok (.aload_n 0, 1) := by decide +kernel
theorem dX9_program_23 : decode cX9_program 23 = .ok (.dup, 1) := by decide +kernel
theorem dX9_program_24 : decode cX9_program 24 = .ok (.getfield 179, 3) := by decide +kernel
theorem dX9_program_27 : decode cX9_program 27 = .ok (.iconst 1, 1) := by decide +kernel
theorem dX9_program_28 : decode cX9_program 28 = .ok (.iadd, 1) := by decide +kernel
theorem dX9_program_29 : decode cX9_program 29 = .ok (.putfield 179, 3) := by decide +kernel
theorem dX9_program_32 : decode cX9_program 32 = .ok (.aload_n 0, 1) := by decide +kernel
theorem dX9_program_33 : decode cX9_program 33 = .ok (.getfield 179, 3) := by decide +kernel
theorem dX9_program_36 : decode cX9_program 36 = .ok (.iconst 1, 1) := by decide +kernel
theorem dX9_program_37 : decode cX9_program 37 = .ok (.isub, 1) := by decide +kernel
theorem dX9_program_38 : decode cX9_program 38 = .ok (.ireturn, 1) := by decide +kernel
theorem dX9_op_0 : decode cX9_op 0 = .ok (.iload_n 1, 1) := by decide +kernel
theorem dX9_op_1 : decode cX9_op 1 = .ok (.i2l, 1) := by decide +kernel
theorem dX9_op_2 : decode cX9_op 2 = .ok (.lconst 0, 1) := by decide +kernel
theorem dX9_op_3 : decode cX9_op 3 = .ok (.aload_n 0, 1) := by decide +kernel
theorem dX9_op_4 : decode cX9_op 4 = .ok (.getfield 179, 3) := by decide +kernel
theorem dX9_op_7 : decode cX9_op 7 = .ok (.iconst 1, 1) := by decide +kernel
theorem dX9_op_8 : decode cX9_op 8 = .ok (.isub, 1) := by decide +kernel
theorem dX9_op_9 : decode cX9_op 9 = .ok (.i2l, 1) := by decide +kernel
theorem dX9_op_10 : decode cX9_op 10 = .ok (.invokestatic 172, 3) := by decide +kernel
theorem dX9_op_13 : decode cX9_op 13 = .ok (.ifCond .ne 5, 3) := by decide +kernel
theorem dX9_op_16 : decode cX9_op 16 = .ok (.iconst (-1), 1) := by decide +kernel
theorem dX9_op_17 : decode cX9_op 17 = .ok (.ireturn, 1) := by decide +kernel
theorem dX9_op_18 : decode cX9_op 18 = .ok (.iload_n 2, 1) := by decide +kernel
theorem dX9_op_19 : decode cX9_op 19 = .ok (.i2l, 1) := by decide +kernel
theorem dX9_op_20 : decode cX9_op 20 = .ok (.lconst 0, 1) := by decide +kernel
theorem dX9_op_21 : decode cX9_op 21 = .ok (.ldc2_w 182, 3) := by decide +kernel
theorem dX9_op_24 : decode cX9_op 24 = .ok (.invokestatic 172, 3) := by decide +kernel
theorem dX9_op_27 : decode cX9_op 27 = .ok (.ifCond .ne 6, 3) := by decide +kernel
theorem dX9_op_30 : decode cX9_op 30 = .ok (.bipush (-2), 2) := by decide +kernel
theorem dX9_op_32 : decode cX9_op 32 = .ok (.ireturn, 1) := by decide +kernel
theorem dX9_op_33 : decode cX9_op 33 = .ok (.aload_n 0, 1) := by decide +kernel
theorem dX9_op_34 : decode cX9_op 34 = .ok (.getfield 176, 3) := by decide +kernel
theorem dX9_op_37 : decode cX9_op 37 = .ok (.ifCond .le 6, 3) := by decide +kernel
theorem dX9_op_40 : decode cX9_op 40 = .ok (.bipush (-3), 2) := by decide +kernel
theorem dX9_op_42 : decode cX9_op 42 = .ok (.ireturn, 1) := by decide +kernel
theorem dX9_op_43 : decode cX9_op 43 = .ok (.aload_n 0, 1) := by decide +kernel
theorem dX9_op_44 : decode cX9_op 44 = .ok (.getfield 7, 3) := by decide +kernel
theorem dX9_op_47 : decode cX9_op 47 = .ok (.iload_n 1, 1) := by decide +kernel
theorem dX9_op_48 : decode cX9_op 48 = .ok (.iaload, 1) := by decide +kernel
theorem dX9_op_49 : decode cX9_op 49 = .ok (.bipush 20, 2) := by decide +kernel
theorem dX9_op_51 : decode cX9_op 51 = .ok (.if_icmp .ne 6, 3) := by decide +kernel
theorem dX9_op_54 : decode cX9_op 54 = .ok (.bipush (-4), 2) := by decide +kernel
theorem dX9_op_56 : decode cX9_op 56 = .ok (.ireturn, 1) := by decide +kernel
theorem dX9_op_57 : decode cX9_op 57 = .ok (.bipush 20, 2) := by decide +kernel
theorem dX9_op_59 : decode cX9_op 59 = .ok (.iload_n 1, 1) := by decide +kernel
theorem dX9_op_60 : decode cX9_op 60 = .ok (.imul, 1) := by decide +kernel
theorem dX9_op_61 : decode cX9_op 61 = .ok (.aload_n 0, 1) := by decide +kernel
theorem dX9_op_62 : decode cX9_op 62 = .ok (.getfield 7, 3) := by decide +kernel
theorem dX9_op_65 : decode cX9_op 65 = .ok (.iload_n 1, 1) := by decide +kernel
theorem dX9_op_66 : decode cX9_op 66 = .ok (.iaload, 1) := by decide +kernel
theorem dX9_op_67 : decode cX9_op 67 = .ok (.iadd, 1) := by decide +kernel
theorem dX9_op_68 : decode cX9_op 68 = .ok (.istore 6, 2) := by decide +kernel
theorem dX9_op_70 : decode cX9_op 70 = .ok (.aload_n 0, 1) := by decide +kernel
theorem dX9_op_71 : decode cX9_op 71 = .ok (.getfield 13, 3) := by decide +kernel
theorem dX9_op_74 : decode cX9_op 74 = .ok (.iload 6, 2) := by decide +kernel
theorem dX9_op_76 : decode cX9_op 76 = .ok (.iload_n 2, 1) := by decide +kernel
theorem dX9_op_77 : decode cX9_op 77 = .ok (.iastore, 1) := by decide +kernel
theorem dX9_op_78 : decode cX9_op 78 = .ok (.aload_n 0, 1) := by decide +kernel
theorem dX9_op_79 : decode cX9_op 79 = .ok (.getfield 16, 3) := by decide +kernel
theorem dX9_op_82 : decode cX9_op 82 = .ok (.iload 6, 2) := by decide +kernel
theorem dX9_op_84 : decode cX9_op 84 = .ok (.lload_n 3, 1) := by decide +kernel
theorem dX9_op_85 : decode cX9_op 85 = .ok (.lastore, 1) := by decide +kernel
theorem dX9_op_86 : decode cX9_op 86 = .ok (.aload_n 0, 1) := by decide +kernel
theorem dX9_op_87 : decode cX9_op 87 = .ok (.getfield 20, 3) := by decide +kernel
theorem dX9_op_90 : decode cX9_op 90 = .ok (.iload 6, 2) := by decide +kernel
theorem dX9_op_92 : decode cX9_op 92 = .ok (.iload 5, 2) := by decide +kernel
theorem dX9_op_94 : decode cX9_op 94 = .ok (.iastore, 1) := by decide +kernel
theorem dX9_op_95 : decode cX9_op 95 = .ok (.aload_n 0, 1) := by decide +kernel
theorem dX9_op_96 : decode cX9_op 96 = .ok (.getfield 7, 3) := by decide +kernel
theorem dX9_op_99 : decode cX9_op 99 = .ok (.iload_n 1, 1) := by decide +kernel
theorem dX9_op_100 : decode cX9_op 100 = .ok (.dup2, 1) := by decide +kernel
theorem dX9_op_101 : decode cX9_op 101 = .ok (.iaload, 1) := by decide +kernel
theorem dX9_op_102 : decode cX9_op 102 = .ok (.iconst 1, 1) := by decide +kernel
theorem dX9_op_103 : decode cX9_op 103 = .ok (.iadd, 1) := by decide +kernel
theorem dX9_op_104 : decode cX9_op 104 = .ok (.iastore, 1) := by decide +kernel
theorem dX9_op_105 : decode cX9_op 105 = .ok (.aload_n 0, 1) := by decide +kernel
theorem dX9_op_106 : decode cX9_op 106 = .ok (.getfield 7, 3) := by decide +kernel
theorem dX9_op_109 : decode cX9_op 109 = .ok (.iload_n 1, 1) := by decide +kernel
theorem dX9_op_110 : decode cX9_op 110 = .ok (.iaload, 1) := by decide +kernel
theorem dX9_op_111 : decode cX9_op 111 = .ok (.ireturn, 1) := by decide +kernel
theorem dX9_account_0 : decode cX9_account 0 = .ok (.aload_n 0, 1) := by decide +kernel
theorem dX9_account_1 : decode cX9_account 1 = .ok (.getfield 176, 3) := by decide +kernel
theorem dX9_account_4 : decode cX9_account 4 = .ok (.ifCond .le 6, 3) := by decide +kernel
theorem dX9_account_7 : decode cX9_account 7 = .ok (.bipush (-3), 2) := by decide +kernel
theorem dX9_account_9 : decode cX9_account 9 = .ok (.ireturn, 1) := by decide +kernel
theorem dX9_account_10 : decode cX9_account 10 = .ok (.aload_n 0, 1) := by decide +kernel
theorem dX9_account_11 : decode cX9_account 11 = .ok (.getfield 168, 3) := by decide +kernel
theorem dX9_account_14 : decode cX9_account 14 = .ok (.bipush 6, 2) := by decide +kernel
theorem dX9_account_16 : decode cX9_account 16 = .ok (.if_icmp .ne 6, 3) := by decide +kernel
theorem dX9_account_19 : decode cX9_account 19 = .ok (.bipush (-4), 2) := by decide +kernel
theorem dX9_account_21 : decode cX9_account 21 = .ok (.ireturn, 1) := by decide +kernel
theorem dX9_account_22 : decode cX9_account 22 = .ok (.iconst 0, 1) := by decide +kernel
theorem dX9_account_23 : decode cX9_account 23 = .ok (.istore_n 1, 1) := by decide +kernel
theorem dX9_account_24 : decode cX9_account 24 = .ok (.iload_n 1, 1) := by decide +kernel
theorem dX9_account_25 : decode cX9_account 25 = .ok (.iconst 4, 1) := by decide +kernel
theorem dX9_account_26 : decode cX9_account 26 = .ok (.if_icmp .ge 23, 3) := by decide +kernel
theorem dX9_account_29 : decode cX9_account 29 = .ok (.aload_n 0, 1) := by decide +kernel
theorem dX9_account_30 : decode cX9_account 30 = .ok (.getfield 23, 3) := by decide +kernel
theorem dX9_account_33 : decode cX9_account 33 = .ok (.iconst 4, 1) := by decide +kernel
theorem dX9_account_34 : decode cX9_account 34 = .ok (.aload_n 0, 1) := by decide +kernel
theorem dX9_account_35 : decode cX9_account 35 = .ok (.getfield 168, 3) := by decide +kernel
theorem dX9_account_38 : decode cX9_account 38 = .ok (.imul, 1) := by decide +kernel
theorem dX9_account_39 : decode cX9_account 39 = .ok (.iload_n 1, 1) := by decide +kernel
theorem dX9_account_40 : decode cX9_account 40 = .ok (.iadd, 1) := by decide +kernel
theorem dX9_account_41 : decode cX9_account 41 = .ok (.iconst (-1), 1) := by decide +kernel
theorem dX9_account_42 : decode cX9_account 42 = .ok (.iastore, 1) := by decide +kernel
theorem dX9_account_43 : decode cX9_account 43 = .ok (.iinc 1 1, 3) := by decide +kernel
theorem dX9_account_46 : decode cX9_account 46 = .ok (.goto (-22), 3) := by decide +kernel
theorem dX9_account_49 : decode cX9_account 49 = .ok (.aload_n 0, 1) := by decide +kernel
theorem dX9_account_50 : decode cX9_account 50 = .ok (.dup, 1) := by decide +kernel
theorem dX9_account_51 : decode cX9_account 51 = .ok (.getfield 168, 3) := by decide +kernel
theorem dX9_account_54 : decode cX9_account 54 = .ok (.iconst 1, 1) := by decide +kernel
theorem dX9_account_55 : decode cX9_account 55 = .ok (.iadd, 1) := by decide +kernel
theorem dX9_account_56 : decode cX9_account 56 = .ok (.putfield 168, 3) := by decide +kernel
theorem dX9_account_59 : decode cX9_account 59 = .ok (.aload_n 0, 1) := by decide +kernel
theorem dX9_account_60 : decode cX9_account 60 = .ok (.getfield 168, 3) := by decide +kernel
theorem dX9_account_63 : decode cX9_account 63 = .ok (.iconst 1, 1) := by decide +kernel
theorem dX9_account_64 : decode cX9_account 64 = .ok (.isub, 1) := by decide +kernel
theorem dX9_account_65 : decode cX9_account 65 = .ok (.ireturn, 1) := by decide +kernel
theorem dX9_member_0 : decode cX9_member 0 = .ok (.aload_n 0, 1) := by decide +kernel
theorem dX9_member_1 : decode cX9_member 1 = .ok (.iload_n 1, 1) := by decide +kernel
theorem dX9_member_2 : decode cX9_member 2 = .ok (.i2l, 1) := by decide +kernel
theorem dX9_member_3 : decode cX9_member 3 = .ok (.invokevirtual 184, 3) := by decide +kernel
theorem dX9_member_6 : decode cX9_member 6 = .ok (.ifCond .eq 24, 3) := by decide +kernel
theorem dX9_member_9 : decode cX9_member 9 = .ok (.iload_n 3, 1) := by decide +kernel
theorem dX9_member_10 : decode cX9_member 10 = .ok (.iconst (-1), 1) := by decide +kernel
theorem dX9_member_11 : decode cX9_member 11 = .ok (.if_icmp .eq 21, 3) := by decide +kernel
theorem dX9_member_14 : decode cX9_member 14 = .ok (.iload_n 3, 1) := by decide +kernel
theorem dX9_member_15 : decode cX9_member 15 = .ok (.i2l, 1) := by decide +kernel
theorem dX9_member_16 : decode cX9_member 16 = .ok (.lconst 0, 1) := by decide +kernel
theorem dX9_member_17 : decode cX9_member 17 = .ok (.aload_n 0, 1) := by decide +kernel
theorem dX9_member_18 : decode cX9_member 18 = .ok (.getfield 179, 3) := by decide +kernel
theorem dX9_member_21 : decode cX9_member 21 = .ok (.iconst 1, 1) := by decide +kernel
theorem dX9_member_22 : decode cX9_member 22 = .ok (.isub, 1) := by decide +kernel
theorem dX9_member_23 : decode cX9_member 23 = .ok (.i2l, 1) := by decide +kernel
theorem dX9_member_24 : decode cX9_member 24 = .ok (.invokestatic 172, 3) := by decide +kernel
theorem dX9_member_27 : decode cX9_member 27 = .ok (.ifCond .ne 5, 3) := by decide +kernel
theorem dX9_member_30 : decode cX9_member 30 = .ok (.iconst (-1), 1) := by decide +kernel
theorem dX9_member_31 : decode cX9_member 31 = .ok (.ireturn, 1) := by decide +kernel
theorem dX9_member_32 : decode cX9_member 32 = .ok (.iload_n 2, 1) := by decide +kernel
theorem dX9_member_33 : decode cX9_member 33 = .ok (.i2l, 1) := by decide +kernel
theorem dX9_member_34 : decode cX9_member 34 = .ok (.lconst 0, 1) := by decide +kernel
theorem dX9_member_35 : decode cX9_member 35 = .ok (.ldc2_w 188, 3) := by decide +kernel
theorem dX9_member_38 : decode cX9_member 38 = .ok (.invokestatic 172, 3) := by decide +kernel
theorem dX9_member_41 : decode cX9_member 41 = .ok (.ifCond .ne 6, 3) := by decide +kernel
theorem dX9_member_44 : decode cX9_member 44 = .ok (.bipush (-2), 2) := by decide +kernel
theorem dX9_member_46 : decode cX9_member 46 = .ok (.ireturn, 1) := by decide +kernel
theorem dX9_member_47 : decode cX9_member 47 = .ok (.aload_n 0, 1) := by decide +kernel
theorem dX9_member_48 : decode cX9_member 48 = .ok (.getfield 176, 3) := by decide +kernel
theorem dX9_member_51 : decode cX9_member 51 = .ok (.ifCond .le 6, 3) := by decide +kernel
theorem dX9_member_54 : decode cX9_member 54 = .ok (.bipush (-3), 2) := by decide +kernel
theorem dX9_member_56 : decode cX9_member 56 = .ok (.ireturn, 1) := by decide +kernel
theorem dX9_member_57 : decode cX9_member 57 = .ok (.aload_n 0, 1) := by decide +kernel
theorem dX9_member_58 : decode cX9_member 58 = .ok (.getfield 23, 3) := by decide +kernel
theorem dX9_member_61 : decode cX9_member 61 = .ok (.iconst 4, 1) := by decide +kernel
theorem dX9_member_62 : decode cX9_member 62 = .ok (.iload_n 1, 1) := by decide +kernel
theorem dX9_member_63 : decode cX9_member 63 = .ok (.imul, 1) := by decide +kernel
theorem dX9_member_64 : decode cX9_member 64 = .ok (.iload_n 2, 1) := by decide +kernel
theorem dX9_member_65 : decode cX9_member 65 = .ok (.iadd, 1) := by decide +kernel
theorem dX9_member_66 : decode cX9_member 66 = .ok (.iload_n 3, 1) := by decide +kernel
theorem dX9_member_67 : decode cX9_member 67 = .ok (.iastore, 1) := by decide +kernel
theorem dX9_member_68 : decode cX9_member 68 = .ok (.iconst 1, 1) := by decide +kernel
theorem dX9_member_69 : decode cX9_member 69 = .ok (.ireturn, 1) := by decide +kernel
theorem dX9_price_0 : decode cX9_price 0 = .ok (.iload_n 1, 1) := by decide +kernel
theorem dX9_price_1 : decode cX9_price 1 = .ok (.i2l, 1) := by decide +kernel
theorem dX9_price_2 : decode cX9_price 2 = .ok (.lconst 0, 1) := by decide +kernel
theorem dX9_price_3 : decode cX9_price 3 = .ok (.ldc2_w 182, 3) := by decide +kernel
theorem dX9_price_6 : decode cX9_price 6 = .ok (.invokestatic 172, 3) := by decide +kernel
theorem dX9_price_9 : decode cX9_price 9 = .ok (.ifCond .eq 15, 3) := by decide +kernel
theorem dX9_price_12 : decode cX9_price 12 = .ok (.iload_n 2, 1) := by decide +kernel
theorem dX9_price_13 : decode cX9_price 13 = .ok (.i2l, 1) := by decide +kernel
theorem dX9_price_14 : decode cX9_price 14 = .ok (.lconst 1, 1) := by decide +kernel
theorem dX9_price_15 : decode cX9_price 15 = .ok (.ldc2_w 190, 3) := by decide +kernel
theorem dX9_price_18 : decode cX9_price 18 = .ok (.invokestatic 172, 3) := by decide +kernel
theorem dX9_price_21 : decode cX9_price 21 = .ok (.ifCond .ne 6, 3) := by decide +kernel
theorem dX9_price_24 : decode cX9_price 24 = .ok (.bipush (-2), 2) := by decide +kernel
theorem dX9_price_26 : decode cX9_price 26 = .ok (.ireturn, 1) := by decide +kernel
theorem dX9_price_27 : decode cX9_price 27 = .ok (.aload_n 0, 1) := by decide +kernel
theorem dX9_price_28 : decode cX9_price 28 = .ok (.getfield 176, 3) := by decide +kernel
theorem dX9_price_31 : decode cX9_price 31 = .ok (.ifCond .le 6, 3) := by decide +kernel
theorem dX9_price_34 : decode cX9_price 34 = .ok (.bipush (-3), 2) := by decide +kernel
theorem dX9_price_36 : decode cX9_price 36 = .ok (.ireturn, 1) := by decide +kernel
theorem dX9_price_37 : decode cX9_price 37 = .ok (.aload_n 0, 1) := by decide +kernel
theorem dX9_price_38 : decode cX9_price 38 = .ok (.getfield 26, 3) := by decide +kernel
theorem dX9_price_41 : decode cX9_price 41 = .ok (.iload_n 1, 1) := by decide +kernel
theorem dX9_price_42 : decode cX9_price 42 = .ok (.iaload, 1) := by decide +kernel
theorem dX9_price_43 : decode cX9_price 43 = .ok (.istore_n 3, 1) := by decide +kernel
theorem dX9_price_44 : decode cX9_price 44 = .ok (.aload_n 0, 1) := by decide +kernel
theorem dX9_price_45 : decode cX9_price 45 = .ok (.getfield 26, 3) := by decide +kernel
theorem dX9_price_48 : decode cX9_price 48 = .ok (.iload_n 1, 1) := by decide +kernel
theorem dX9_price_49 : decode cX9_price 49 = .ok (.iload_n 2, 1) := by decide +kernel
theorem dX9_price_50 : decode cX9_price 50 = .ok (.iastore, 1) := by decide +kernel
theorem dX9_price_51 : decode cX9_price 51 = .ok (.iload_n 3, 1) := by decide +kernel
theorem dX9_price_52 : decode cX9_price 52 = .ok (.ireturn, 1) := by decide +kernel
theorem dX9_fund_0 : decode cX9_fund 0 = .ok (.aload_n 0, 1) := by decide +kernel
theorem dX9_fund_1 : decode cX9_fund 1 = .ok (.iload_n 1, 1) := by decide +kernel
theorem dX9_fund_2 : decode cX9_fund 2 = .ok (.i2l, 1) := by decide +kernel
theorem dX9_fund_3 : decode cX9_fund 3 = .ok (.invokevirtual 184, 3) := by decide +kernel
theorem dX9_fund_6 : decode cX9_fund 6 = .ok (.ifCond .ne 7, 3) := by decide +kernel
theorem dX9_fund_9 : decode cX9_fund 9 = .ok (.ldc2_w 192, 3) := by decide +kernel
theorem dX9_fund_12 : decode cX9_fund 12 = .ok (.lreturn, 1) := by decide +kernel
theorem dX9_fund_13 : decode cX9_fund 13 = .ok (.lload_n 2, 1) := by decide +kernel
theorem dX9_fund_14 : decode cX9_fund 14 = .ok (.lconst 0, 1) := by decide +kernel
theorem dX9_fund_15 : decode cX9_fund 15 = .ok (.ldc2_w 194, 3) := by decide +kernel
theorem dX9_fund_18 : decode cX9_fund 18 = .ok (.invokestatic 172, 3) := by decide +kernel
theorem dX9_fund_21 : decode cX9_fund 21 = .ok (.ifCond .ne 7, 3) := by decide +kernel
theorem dX9_fund_24 : decode cX9_fund 24 = .ok (.ldc2_w 196, 3) := by decide +kernel
theorem dX9_fund_27 : decode cX9_fund 27 = .ok (.lreturn, 1) := by decide +kernel
theorem dX9_fund_28 : decode cX9_fund 28 = .ok (.aload_n 0, 1) := by decide +kernel
theorem dX9_fund_29 : decode cX9_fund 29 = .ok (.getfield 32, 3) := by decide +kernel
theorem dX9_fund_32 : decode cX9_fund 32 = .ok (.iload_n 1, 1) := by decide +kernel
theorem dX9_fund_33 : decode cX9_fund 33 = .ok (.laload, 1) := by decide +kernel
theorem dX9_fund_34 : decode cX9_fund 34 = .ok (.lstore 4, 2) := by decide +kernel
theorem dX9_fund_36 : decode cX9_fund 36 = .ok (.aload_n 0, 1) := by decide +kernel
theorem dX9_fund_37 : decode cX9_fund 37 = .ok (.getfield 32, 3) := by decide +kernel
theorem dX9_fund_40 : decode cX9_fund 40 = .ok (.iload_n 1, 1) := by decide +kernel
theorem dX9_fund_41 : decode cX9_fund 41 = .ok (.lload_n 2, 1) := by decide +kernel
theorem dX9_fund_42 : decode cX9_fund 42 = .ok (.lastore, 1) := by decide +kernel
theorem dX9_fund_43 : decode cX9_fund 43 = .ok (.lload 4, 2) := by decide +kernel
theorem dX9_fund_45 : decode cX9_fund 45 = .ok (.lreturn, 1) := by decide +kernel
theorem dX9_cell_0 : decode cX9_cell 0 = .ok (.aload_n 0, 1) := by decide +kernel
theorem dX9_cell_1 : decode cX9_cell 1 = .ok (.iload_n 1, 1) := by decide +kernel
theorem dX9_cell_2 : decode cX9_cell 2 = .ok (.i2l, 1) := by decide +kernel
theorem dX9_cell_3 : decode cX9_cell 3 = .ok (.invokevirtual 184, 3) := by decide +kernel
theorem dX9_cell_6 : decode cX9_cell 6 = .ok (.ifCond .eq 29, 3) := by decide +kernel
theorem dX9_cell_9 : decode cX9_cell 9 = .ok (.iload_n 2, 1) := by decide +kernel
theorem dX9_cell_10 : decode cX9_cell 10 = .ok (.i2l, 1) := by decide +kernel
theorem dX9_cell_11 : decode cX9_cell 11 = .ok (.lconst 0, 1) := by decide +kernel
theorem dX9_cell_12 : decode cX9_cell 12 = .ok (.ldc2_w 198, 3) := by decide +kernel
theorem dX9_cell_15 : decode cX9_cell 15 = .ok (.invokestatic 172, 3) := by decide +kernel
theorem dX9_cell_18 : decode cX9_cell 18 = .ok (.ifCond .eq 17, 3) := by decide +kernel
theorem dX9_cell_21 : decode cX9_cell 21 = .ok (.aload_n 0, 1) := by decide +kernel
theorem dX9_cell_22 : decode cX9_cell 22 = .ok (.getfield 29, 3) := by decide +kernel
theorem dX9_cell_25 : decode cX9_cell 25 = .ok (.bipush 8, 2) := by decide +kernel
theorem dX9_cell_27 : decode cX9_cell 27 = .ok (.iload_n 1, 1) := by decide +kernel
theorem dX9_cell_28 : decode cX9_cell 28 = .ok (.imul, 1) := by decide +kernel
theorem dX9_cell_29 : decode cX9_cell 29 = .ok (.iload_n 2, 1) := by decide +kernel
theorem dX9_cell_30 : decode cX9_cell 30 = .ok (.iadd, 1) := by decide +kernel
theorem dX9_cell_31 : decode cX9_cell 31 = .ok (.laload, 1) := by decide +kernel
theorem dX9_cell_32 : decode cX9_cell 32 = .ok (.goto 4, 3) := by decide +kernel
theorem dX9_cell_35 : decode cX9_cell 35 = .ok (.lconst 0, 1) := by decide +kernel
theorem dX9_cell_36 : decode cX9_cell 36 = .ok (.lreturn, 1) := by decide +kernel
theorem dX9_balance_0 : decode cX9_balance 0 = .ok (.aload_n 0, 1) := by decide +kernel
theorem dX9_balance_1 : decode cX9_balance 1 = .ok (.iload_n 1, 1) := by decide +kernel
theorem dX9_balance_2 : decode cX9_balance 2 = .ok (.i2l, 1) := by decide +kernel
theorem dX9_balance_3 : decode cX9_balance 3 = .ok (.invokevirtual 184, 3) := by decide +kernel
theorem dX9_balance_6 : decode cX9_balance 6 = .ok (.ifCond .eq 12, 3) := by decide +kernel
theorem dX9_balance_9 : decode cX9_balance 9 = .ok (.aload_n 0, 1) := by decide +kernel
theorem dX9_balance_10 : decode cX9_balance 10 = .ok (.getfield 32, 3) := by decide +kernel
theorem dX9_balance_13 : decode cX9_balance 13 = .ok (.iload_n 1, 1) := by decide +kernel
theorem dX9_balance_14 : decode cX9_balance 14 = .ok (.laload, 1) := by decide +kernel
theorem dX9_balance_15 : decode cX9_balance 15 = .ok (.goto 6, 3) := by decide +kernel
theorem dX9_balance_18 : decode cX9_balance 18 = .ok (.ldc2_w 192, 3) := by decide +kernel
theorem dX9_balance_21 : decode cX9_balance 21 = .ok (.lreturn, 1) := by decide +kernel
theorem dX9_enters_0 : decode cX9_enters 0 = .ok (.aload_n 0, 1) := by decide +kernel
theorem dX9_enters_1 : decode cX9_enters 1 = .ok (.getfield 200, 3) := by decide +kernel
theorem dX9_enters_4 : decode cX9_enters 4 = .ok (.istore 6, 2) := by decide +kernel
theorem dX9_enters_6 : decode cX9_enters 6 = .ok (.aload_n 0, 1) := by decide +kernel
theorem dX9_enters_7 : decode cX9_enters 7 = .ok (.getfield 113, 3) := by decide +kernel
theorem dX9_enters_10 : decode cX9_enters 10 = .ok (.iload 6, 2) := by decide +kernel
theorem dX9_enters_12 : decode cX9_enters 12 = .ok (.iload_n 1, 1) := by decide +kernel
theorem dX9_enters_13 : decode cX9_enters 13 = .ok (.iastore, 1) := by decide +kernel
theorem dX9_enters_14 : decode cX9_enters 14 = .ok (.aload_n 0, 1) := by decide +kernel
theorem dX9_enters_15 : decode cX9_enters 15 = .ok (.getfield 116, 3) := by decide +kernel
theorem dX9_enters_18 : decode cX9_enters 18 = .ok (.iload 6, 2) := by decide +kernel
theorem dX9_enters_20 : decode cX9_enters 20 = .ok (.iload_n 2, 1) := by decide +kernel
theorem dX9_enters_21 : decode cX9_enters 21 = .ok (.iastore, 1) := by decide +kernel
theorem dX9_enters_22 : decode cX9_enters 22 = .ok (.aload_n 0, 1) := by decide +kernel
theorem dX9_enters_23 : decode cX9_enters 23 = .ok (.getfield 119, 3) := by decide +kernel
theorem dX9_enters_26 : decode cX9_enters 26 = .ok (.iload 6, 2) := by decide +kernel
theorem dX9_enters_28 : decode cX9_enters 28 = .ok (.aload_n 0, 1) := by decide +kernel
theorem dX9_enters_29 : decode cX9_enters 29 = .ok (.getfield 23, 3) := by decide +kernel
theorem dX9_enters_32 : decode cX9_enters 32 = .ok (.iconst 4, 1) := by decide +kernel
theorem dX9_enters_33 : decode cX9_enters 33 = .ok (.iload_n 1, 1) := by decide +kernel
theorem dX9_enters_34 : decode cX9_enters 34 = .ok (.imul, 1) := by decide +kernel
theorem dX9_enters_35 : decode cX9_enters 35 = .ok (.iload_n 2, 1) := by decide +kernel
theorem dX9_enters_36 : decode cX9_enters 36 = .ok (.iadd, 1) := by decide +kernel
theorem dX9_enters_37 : decode cX9_enters 37 = .ok (.iaload, 1) := by decide +kernel
theorem dX9_enters_38 : decode cX9_enters 38 = .ok (.iastore, 1) := by decide +kernel
theorem dX9_enters_39 : decode cX9_enters 39 = .ok (.aload_n 0, 1) := by decide +kernel
theorem dX9_enters_40 : decode cX9_enters 40 = .ok (.getfield 122, 3) := by decide +kernel
theorem dX9_enters_43 : decode cX9_enters 43 = .ok (.iload 6, 2) := by decide +kernel
theorem dX9_enters_45 : decode cX9_enters 45 = .ok (.iconst 0, 1) := by decide +kernel
theorem dX9_enters_46 : decode cX9_enters 46 = .ok (.iastore, 1) := by decide +kernel
theorem dX9_enters_47 : decode cX9_enters 47 = .ok (.aload_n 0, 1) := by decide +kernel
theorem dX9_enters_48 : decode cX9_enters 48 = .ok (.getfield 125, 3) := by decide +kernel
theorem dX9_enters_51 : decode cX9_enters 51 = .ok (.iload 6, 2) := by decide +kernel
theorem dX9_enters_53 : decode cX9_enters 53 = .ok (.lload_n 3, 1) := by decide +kernel
theorem dX9_enters_54 : decode cX9_enters 54 = .ok (.lastore, 1) := by decide +kernel
theorem dX9_enters_55 : decode cX9_enters 55 = .ok (.aload_n 0, 1) := by decide +kernel
theorem dX9_enters_56 : decode cX9_enters 56 = .ok (.getfield 131, 3) := by decide +kernel
theorem dX9_enters_59 : decode cX9_enters 59 = .ok (.iload 6, 2) := by decide +kernel
theorem dX9_enters_61 : decode cX9_enters 61 = .ok (.iload 5, 2) := by decide +kernel
theorem dX9_enters_63 : decode cX9_enters 63 = .ok (.bastore, 1) := by decide +kernel
theorem dX9_enters_64 : decode cX9_enters 64 = .ok (.aload_n 0, 1) := by decide +kernel
theorem dX9_enters_65 : decode cX9_enters 65 = .ok (.getfield 135, 3) := by decide +kernel
theorem dX9_enters_68 : decode cX9_enters 68 = .ok (.iload 6, 2) := by decide +kernel
theorem dX9_enters_70 : decode cX9_enters 70 = .ok (.iconst 0, 1) := by decide +kernel
theorem dX9_enters_71 : decode cX9_enters 71 = .ok (.iastore, 1) := by decide +kernel
theorem dX9_enters_72 : decode cX9_enters 72 = .ok (.aload_n 0, 1) := by decide +kernel
theorem dX9_enters_73 : decode cX9_enters 73 = .ok (.getfield 128, 3) := by decide +kernel
theorem dX9_enters_76 : decode cX9_enters 76 = .ok (.iload 6, 2) := by decide +kernel
theorem dX9_enters_78 : decode cX9_enters 78 = .ok (.aload_n 0, 1) := by decide +kernel
theorem dX9_enters_79 : decode cX9_enters 79 = .ok (.getfield 203, 3) := by decide +kernel
theorem dX9_enters_82 : decode cX9_enters 82 = .ok (.iastore, 1) := by decide +kernel
theorem dX9_enters_83 : decode cX9_enters 83 = .ok (.iconst 0, 1) := by decide +kernel
theorem dX9_enters_84 : decode cX9_enters 84 = .ok (.istore 7, 2) := by decide +kernel
theorem dX9_enters_86 : decode cX9_enters 86 = .ok (.iload 7, 2) := by decide +kernel
theorem dX9_enters_88 : decode cX9_enters 88 = .ok (.bipush 48, 2) := by decide +kernel
theorem dX9_enters_90 : decode cX9_enters 90 = .ok (.if_icmp .ge 29, 3) := by decide +kernel
theorem dX9_enters_93 : decode cX9_enters 93 = .ok (.aload_n 0, 1) := by decide +kernel
theorem dX9_enters_94 : decode cX9_enters 94 = .ok (.getfield 141, 3) := by decide +kernel
theorem dX9_enters_97 : decode cX9_enters 97 = .ok (.bipush 48, 2) := by decide +kernel
theorem dX9_enters_99 : decode cX9_enters 99 = .ok (.iload 6, 2) := by decide +kernel
theorem dX9_enters_101 : decode cX9_enters 101 = .ok (.imul, 1) := by decide +kernel
theorem dX9_enters_102 : decode cX9_enters 102 = .ok (.iload 7, 2) := by decide +kernel
theorem dX9_enters_104 : decode cX9_enters 104 = .ok (.iadd, 1) := by decide +kernel
theorem dX9_enters_105 : decode cX9_enters 105 = .ok (.aload_n 0, 1) := by decide +kernel
theorem dX9_enters_106 : decode cX9_enters 106 = .ok (.getfield 29, 3) := by decide +kernel
theorem dX9_enters_109 : decode cX9_enters 109 = .ok (.iload 7, 2) := by decide +kernel
theorem dX9_enters_111 : decode cX9_enters 111 = .ok (.laload, 1) := by decide +kernel
theorem dX9_enters_112 : decode cX9_enters 112 = .ok (.lastore, 1) := by decide +kernel
theorem dX9_enters_113 : decode cX9_enters 113 = .ok (.iinc 7 1, 3) := by decide +kernel
theorem dX9_enters_116 : decode cX9_enters 116 = .ok (.goto (-30), 3) := by decide +kernel
theorem dX9_enters_119 : decode cX9_enters 119 = .ok (.iconst 0, 1) := by decide +kernel
theorem dX9_enters_120 : decode cX9_enters 120 = .ok (.istore 7, 2) := by decide +kernel
theorem dX9_enters_122 : decode cX9_enters 122 = .ok (.iload 7, 2) := by decide +kernel
theorem dX9_enters_124 : decode cX9_enters 124 = .ok (.bipush 6, 2) := by decide +kernel
theorem dX9_enters_126 : decode cX9_enters 126 = .ok (.if_icmp .ge 107, 3) := by decide +kernel
theorem dX9_enters_129 : decode cX9_enters 129 = .ok (.aload_n 0, 1) := by decide +kernel
theorem dX9_enters_130 : decode cX9_enters 130 = .ok (.getfield 144, 3) := by decide +kernel
theorem dX9_enters_133 : decode cX9_enters 133 = .ok (.bipush 6, 2) := by decide +kernel
theorem dX9_enters_135 : decode cX9_enters 135 = .ok (.iload 6, 2) := by decide +kernel
theorem dX9_enters_137 : decode cX9_enters 137 = .ok (.imul, 1) := by decide +kernel
theorem dX9_enters_138 : decode cX9_enters 138 = .ok (.iload 7, 2) := by decide +kernel
theorem dX9_enters_140 : decode cX9_enters 140 = .ok (.iadd, 1) := by decide +kernel
theorem dX9_enters_141 : decode cX9_enters 141 = .ok (.aload_n 0, 1) := by decide +kernel
theorem dX9_enters_142 : decode cX9_enters 142 = .ok (.getfield 32, 3) := by decide +kernel
theorem dX9_enters_145 : decode cX9_enters 145 = .ok (.iload 7, 2) := by decide +kernel
theorem dX9_enters_147 : decode cX9_enters 147 = .ok (.laload, 1) := by decide +kernel
theorem dX9_enters_148 : decode cX9_enters 148 = .ok (.lastore, 1) := by decide +kernel
theorem dX9_enters_149 : decode cX9_enters 149 = .ok (.aload_n 0, 1) := by decide +kernel
theorem dX9_enters_150 : decode cX9_enters 150 = .ok (.getfield 147, 3) := by decide +kernel
theorem dX9_enters_153 : decode cX9_enters 153 = .ok (.bipush 6, 2) := by decide +kernel
theorem dX9_enters_155 : decode cX9_enters 155 = .ok (.iload 6, 2) := by decide +kernel
theorem dX9_enters_157 : decode cX9_enters 157 = .ok (.imul, 1) := by decide +kernel
theorem dX9_enters_158 : decode cX9_enters 158 = .ok (.iload 7, 2) := by decide +kernel
theorem dX9_enters_160 : decode cX9_enters 160 = .ok (.iadd, 1) := by decide +kernel
theorem dX9_enters_161 : decode cX9_enters 161 = .ok (.aload_n 0, 1) := by decide +kernel
theorem dX9_enters_162 : decode cX9_enters 162 = .ok (.getfield 206, 3) := by decide +kernel
theorem dX9_enters_165 : decode cX9_enters 165 = .ok (.ifCond .eq 21, 3) := by decide +kernel
theorem dX9_enters_168 : decode cX9_enters 168 = .ok (.aload_n 0, 1) := by decide +kernel
theorem dX9_enters_169 : decode cX9_enters 169 = .ok (.getfield 107, 3) := by decide +kernel
theorem dX9_enters_172 : decode cX9_enters 172 = .ok (.bipush 6, 2) := by decide +kernel
theorem dX9_enters_174 : decode cX9_enters 174 = .ok (.aload_n 0, 1) := by decide +kernel
theorem dX9_enters_175 : decode cX9_enters 175 = .ok (.getfield 210, 3) := by decide +kernel
theorem dX9_enters_178 : decode cX9_enters 178 = .ok (.imul, 1) := by decide +kernel
theorem dX9_enters_179 : decode cX9_enters 179 = .ok (.iload 7, 2) := by decide +kernel
theorem dX9_enters_181 : decode cX9_enters 181 = .ok (.iadd, 1) := by decide +kernel
theorem dX9_enters_182 : decode cX9_enters 182 = .ok (.laload, 1) := by decide +kernel
theorem dX9_enters_183 : decode cX9_enters 183 = .ok (.goto 4, 3) := by decide +kernel
theorem dX9_enters_186 : decode cX9_enters 186 = .ok (.lconst 0, 1) := by decide +kernel
theorem dX9_enters_187 : decode cX9_enters 187 = .ok (.lastore, 1) := by decide +kernel
theorem dX9_enters_188 : decode cX9_enters 188 = .ok (.aload_n 0, 1) := by decide +kernel
theorem dX9_enters_189 : decode cX9_enters 189 = .ok (.getfield 150, 3) := by decide +kernel
theorem dX9_enters_192 : decode cX9_enters 192 = .ok (.bipush 6, 2) := by decide +kernel
theorem dX9_enters_194 : decode cX9_enters 194 = .ok (.iload 6, 2) := by decide +kernel
theorem dX9_enters_196 : decode cX9_enters 196 = .ok (.imul, 1) := by decide +kernel
theorem dX9_enters_197 : decode cX9_enters 197 = .ok (.iload 7, 2) := by decide +kernel
theorem dX9_enters_199 : decode cX9_enters 199 = .ok (.iadd, 1) := by decide +kernel
theorem dX9_enters_200 : decode cX9_enters 200 = .ok (.aload_n 0, 1) := by decide +kernel
theorem dX9_enters_201 : decode cX9_enters 201 = .ok (.getfield 206, 3) := by decide +kernel
theorem dX9_enters_204 : decode cX9_enters 204 = .ok (.ifCond .eq 21, 3) := by decide +kernel
theorem dX9_enters_207 : decode cX9_enters 207 = .ok (.aload_n 0, 1) := by decide +kernel
theorem dX9_enters_208 : decode cX9_enters 208 = .ok (.getfield 110, 3) := by decide +kernel
theorem dX9_enters_211 : decode cX9_enters 211 = .ok (.bipush 6, 2) := by decide +kernel
theorem dX9_enters_213 : decode cX9_enters 213 = .ok (.aload_n 0, 1) := by decide +kernel
theorem dX9_enters_214 : decode cX9_enters 214 = .ok (.getfield 210, 3) := by decide +kernel
theorem dX9_enters_217 : decode cX9_enters 217 = .ok (.imul, 1) := by decide +kernel
theorem dX9_enters_218 : decode cX9_enters 218 = .ok (.iload 7, 2) := by decide +kernel
theorem dX9_enters_220 : decode cX9_enters 220 = .ok (.iadd, 1) := by decide +kernel
theorem dX9_enters_221 : decode cX9_enters 221 = .ok (.laload, 1) := by decide +kernel
theorem dX9_enters_222 : decode cX9_enters 222 = .ok (.goto 4, 3) := by decide +kernel
theorem dX9_enters_225 : decode cX9_enters 225 = .ok (.lconst 0, 1) := by decide +kernel
theorem dX9_enters_226 : decode cX9_enters 226 = .ok (.lastore, 1) := by decide +kernel
theorem dX9_enters_227 : decode cX9_enters 227 = .ok (.iinc 7 1, 3) := by decide +kernel
theorem dX9_enters_230 : decode cX9_enters 230 = .ok (.goto (-108), 3) := by decide +kernel
theorem dX9_enters_233 : decode cX9_enters 233 = .ok (.aload_n 0, 1) := by decide +kernel
theorem dX9_enters_234 : decode cX9_enters 234 = .ok (.getfield 153, 3) := by decide +kernel
theorem dX9_enters_237 : decode cX9_enters 237 = .ok (.iload 6, 2) := by decide +kernel
theorem dX9_enters_239 : decode cX9_enters 239 = .ok (.aload_n 0, 1) := by decide +kernel
theorem dX9_enters_240 : decode cX9_enters 240 = .ok (.getfield 206, 3) := by decide +kernel
theorem dX9_enters_243 : decode cX9_enters 243 = .ok (.ifCond .eq 15, 3) := by decide +kernel
theorem dX9_enters_246 : decode cX9_enters 246 = .ok (.aload_n 0, 1) := by decide +kernel
theorem dX9_enters_247 : decode cX9_enters 247 = .ok (.getfield 95, 3) := by decide +kernel
theorem dX9_enters_250 : decode cX9_enters 250 = .ok (.aload_n 0, 1) := by decide +kernel
theorem dX9_enters_251 : decode cX9_enters 251 = .ok (.getfield 210, 3) := by decide +kernel
theorem dX9_enters_254 : decode cX9_enters 254 = .ok (.iaload, 1) := by decide +kernel
theorem dX9_enters_255 : decode cX9_enters 255 = .ok (.goto 4, 3) := by decide +kernel
theorem dX9_enters_258 : decode cX9_enters 258 = .ok (.iconst 0, 1) := by decide +kernel
theorem dX9_enters_259 : decode cX9_enters 259 = .ok (.iastore, 1) := by decide +kernel
theorem dX9_enters_260 : decode cX9_enters 260 = .ok (.aload_n 0, 1) := by decide +kernel
theorem dX9_enters_261 : decode cX9_enters 261 = .ok (.getfield 206, 3) := by decide +kernel
theorem dX9_enters_264 : decode cX9_enters 264 = .ok (.ifCond .eq 74, 3) := by decide +kernel
theorem dX9_enters_267 : decode cX9_enters 267 = .ok (.aload_n 0, 1) := by decide +kernel
theorem dX9_enters_268 : decode cX9_enters 268 = .ok (.getfield 80, 3) := by decide +kernel
theorem dX9_enters_271 : decode cX9_enters 271 = .ok (.bipush 101, 2) := by decide +kernel
theorem dX9_enters_273 : decode cX9_enters 273 = .ok (.aload_n 0, 1) := by decide +kernel
theorem dX9_enters_274 : decode cX9_enters 274 = .ok (.getfield 210, 3) := by decide +kernel
theorem dX9_enters_277 : decode cX9_enters 277 = .ok (.imul, 1) := by decide +kernel
theorem dX9_enters_278 : decode cX9_enters 278 = .ok (.aload_n 0, 1) := by decide +kernel
theorem dX9_enters_279 : decode cX9_enters 279 = .ok (.getfield 203, 3) := by decide +kernel
theorem dX9_enters_282 : decode cX9_enters 282 = .ok (.iadd, 1) := by decide +kernel
theorem dX9_enters_283 : decode cX9_enters 283 = .ok (.iload_n 1, 1) := by decide +kernel
theorem dX9_enters_284 : decode cX9_enters 284 = .ok (.iastore, 1) := by decide +kernel
theorem dX9_enters_285 : decode cX9_enters 285 = .ok (.aload_n 0, 1) := by decide +kernel
theorem dX9_enters_286 : decode cX9_enters 286 = .ok (.getfield 83, 3) := by decide +kernel
theorem dX9_enters_289 : decode cX9_enters 289 = .ok (.bipush 101, 2) := by decide +kernel
theorem dX9_enters_291 : decode cX9_enters 291 = .ok (.aload_n 0, 1) := by decide +kernel
theorem dX9_enters_292 : decode cX9_enters 292 = .ok (.getfield 210, 3) := by decide +kernel
theorem dX9_enters_295 : decode cX9_enters 295 = .ok (.imul, 1) := by decide +kernel
theorem dX9_enters_296 : decode cX9_enters 296 = .ok (.aload_n 0, 1) := by decide +kernel
theorem dX9_enters_297 : decode cX9_enters 297 = .ok (.getfield 203, 3) := by decide +kernel
theorem dX9_enters_300 : decode cX9_enters 300 = .ok (.iadd, 1) := by decide +kernel
theorem dX9_enters_301 : decode cX9_enters 301 = .ok (.iload_n 2, 1) := by decide +kernel
theorem dX9_enters_302 : decode cX9_enters 302 = .ok (.iastore, 1) := by decide +kernel
theorem dX9_enters_303 : decode cX9_enters 303 = .ok (.aload_n 0, 1) := by decide +kernel
theorem dX9_enters_304 : decode cX9_enters 304 = .ok (.getfield 86, 3) := by decide +kernel
theorem dX9_enters_307 : decode cX9_enters 307 = .ok (.bipush 101, 2) := by decide +kernel
theorem dX9_enters_309 : decode cX9_enters 309 = .ok (.aload_n 0, 1) := by decide +kernel
theorem dX9_enters_310 : decode cX9_enters 310 = .ok (.getfield 210, 3) := by decide +kernel
theorem dX9_enters_313 : decode cX9_enters 313 = .ok (.imul, 1) := by decide +kernel
theorem dX9_enters_314 : decode cX9_enters 314 = .ok (.aload_n 0, 1) := by decide +kernel
theorem dX9_enters_315 : decode cX9_enters 315 = .ok (.getfield 203, 3) := by decide +kernel
theorem dX9_enters_318 : decode cX9_enters 318 = .ok (.iadd, 1) := by decide +kernel
theorem dX9_enters_319 : decode cX9_enters 319 = .ok (.iload 6, 2) := by decide +kernel
theorem dX9_enters_321 : decode cX9_enters 321 = .ok (.ifCond .ne 7, 3) := by decide +kernel
theorem dX9_enters_324 : decode cX9_enters 324 = .ok (.iconst (-1), 1) := by decide +kernel
theorem dX9_enters_325 : decode cX9_enters 325 = .ok (.goto 12, 3) := by decide +kernel
theorem dX9_enters_328 : decode cX9_enters 328 = .ok (.aload_n 0, 1) := by decide +kernel
theorem dX9_enters_329 : decode cX9_enters 329 = .ok (.getfield 128, 3) := by decide +kernel
theorem dX9_enters_332 : decode cX9_enters 332 = .ok (.iload 6, 2) := by decide +kernel
theorem dX9_enters_334 : decode cX9_enters 334 = .ok (.iconst 1, 1) := by decide +kernel
theorem dX9_enters_335 : decode cX9_enters 335 = .ok (.isub, 1) := by decide +kernel
theorem dX9_enters_336 : decode cX9_enters 336 = .ok (.iaload, 1) := by decide +kernel
theorem dX9_enters_337 : decode cX9_enters 337 = .ok (.iastore, 1) := by decide +kernel
theorem dX9_enters_338 : decode cX9_enters 338 = .ok (.aload_n 0, 1) := by decide +kernel
theorem dX9_enters_339 : decode cX9_enters 339 = .ok (.dup, 1) := by decide +kernel
theorem dX9_enters_340 : decode cX9_enters 340 = .ok (.getfield 203, 3) := by decide +kernel
theorem dX9_enters_343 : decode cX9_enters 343 = .ok (.iconst 1, 1) := by decide +kernel
theorem dX9_enters_344 : decode cX9_enters 344 = .ok (.iadd, 1) := by decide +kernel
theorem dX9_enters_345 : decode cX9_enters 345 = .ok (.putfield 203, 3) := by decide +kernel
theorem dX9_enters_348 : decode cX9_enters 348 = .ok (.aload_n 0, 1) := by decide +kernel
theorem dX9_enters_349 : decode cX9_enters 349 = .ok (.dup, 1) := by decide +kernel
theorem dX9_enters_350 : decode cX9_enters 350 = .ok (.getfield 200, 3) := by decide +kernel
theorem dX9_enters_353 : decode cX9_enters 353 = .ok (.iconst 1, 1) := by decide +kernel
theorem dX9_enters_354 : decode cX9_enters 354 = .ok (.iadd, 1) := by decide +kernel
theorem dX9_enters_355 : decode cX9_enters 355 = .ok (.putfield 200, 3) := by decide +kernel
theorem dX9_enters_358 : decode cX9_enters 358 = .ok (.aload_n 0, 1) := by decide +kernel
theorem dX9_enters_359 : decode cX9_enters 359 = .ok (.aload_n 0, 1) := by decide +kernel
theorem dX9_enters_360 : decode cX9_enters 360 = .ok (.getfield 200, 3) := by decide +kernel
theorem dX9_enters_363 : decode cX9_enters 363 = .ok (.aload_n 0, 1) := by decide +kernel
theorem dX9_enters_364 : decode cX9_enters 364 = .ok (.getfield 213, 3) := by decide +kernel
theorem dX9_enters_367 : decode cX9_enters 367 = .ok (.if_icmp .le 10, 3) := by decide +kernel
theorem dX9_enters_370 : decode cX9_enters 370 = .ok (.aload_n 0, 1) := by decide +kernel
theorem dX9_enters_371 : decode cX9_enters 371 = .ok (.getfield 200, 3) := by decide +kernel
theorem dX9_enters_374 : decode cX9_enters 374 = .ok (.goto 7, 3) := by decide +kernel
theorem dX9_enters_377 : decode cX9_enters 377 = .ok (.aload_n 0, 1) := by decide +kernel
theorem dX9_enters_378 : decode cX9_enters 378 = .ok (.getfield 213, 3) := by decide +kernel
theorem dX9_enters_381 : decode cX9_enters 381 = .ok (.putfield 213, 3) := by decide +kernel
theorem dX9_enters_384 : decode cX9_enters 384 = .ok (.return_, 1) := by decide +kernel
theorem dX9_undoes_0 : decode cX9_undoes 0 = .ok (.iconst 0, 1) := by decide +kernel
theorem dX9_undoes_1 : decode cX9_undoes 1 = .ok (.istore_n 2, 1) := by decide +kernel
theorem dX9_undoes_2 : decode cX9_undoes 2 = .ok (.iload_n 2, 1) := by decide +kernel
theorem dX9_undoes_3 : decode cX9_undoes 3 = .ok (.bipush 48, 2) := by decide +kernel
theorem dX9_undoes_5 : decode cX9_undoes 5 = .ok (.if_icmp .ge 26, 3) := by decide +kernel
theorem dX9_undoes_8 : decode cX9_undoes 8 = .ok (.aload_n 0, 1) := by decide +kernel
theorem dX9_undoes_9 : decode cX9_undoes 9 = .ok (.getfield 29, 3) := by decide +kernel
theorem dX9_undoes_12 : decode cX9_undoes 12 = .ok (.iload_n 2, 1) := by decide +kernel
theorem dX9_undoes_13 : decode cX9_undoes 13 = .ok (.aload_n 0, 1) := by decide +kernel
theorem dX9_undoes_14 : decode cX9_undoes 14 = .ok (.getfield 141, 3) := by decide +kernel
theorem dX9_undoes_17 : decode cX9_undoes 17 = .ok (.bipush 48, 2) := by decide +kernel
theorem dX9_undoes_19 : decode cX9_undoes 19 = .ok (.iload_n 1, 1) := by decide +kernel
theorem dX9_undoes_20 : decode cX9_undoes 20 = .ok (.imul, 1) := by decide +kernel
theorem dX9_undoes_21 : decode cX9_undoes 21 = .ok (.iload_n 2, 1) := by decide +kernel
theorem dX9_undoes_22 : decode cX9_undoes 22 = .ok (.iadd, 1) := by decide +kernel
theorem dX9_undoes_23 : decode cX9_undoes 23 = .ok (.laload, 1) := by decide +kernel
theorem dX9_undoes_24 : decode cX9_undoes 24 = .ok (.lastore, 1) := by decide +kernel
theorem dX9_undoes_25 : decode cX9_undoes 25 = .ok (.iinc 2 1, 3) := by decide +kernel
theorem dX9_undoes_28 : decode cX9_undoes 28 = .ok (.goto (-26), 3) := by decide +kernel
theorem dX9_undoes_31 : decode cX9_undoes 31 = .ok (.iconst 0, 1) := by decide +kernel
theorem dX9_undoes_32 : decode cX9_undoes 32 = .ok (.istore_n 2, 1) := by decide +kernel
theorem dX9_undoes_33 : decode cX9_undoes 33 = .ok (.iload_n 2, 1) := by decide +kernel
theorem dX9_undoes_34 : decode cX9_undoes 34 = .ok (.bipush 6, 2) := by decide +kernel
theorem dX9_undoes_36 : decode cX9_undoes 36 = .ok (.if_icmp .ge 83, 3) := by decide +kernel
theorem dX9_undoes_39 : decode cX9_undoes 39 = .ok (.aload_n 0, 1) := by decide +kernel
theorem dX9_undoes_40 : decode cX9_undoes 40 = .ok (.getfield 32, 3) := by decide +kernel
theorem dX9_undoes_43 : decode cX9_undoes 43 = .ok (.iload_n 2, 1) := by decide +kernel
theorem dX9_undoes_44 : decode cX9_undoes 44 = .ok (.aload_n 0, 1) := by decide +kernel
theorem dX9_undoes_45 : decode cX9_undoes 45 = .ok (.getfield 144, 3) := by decide +kernel
theorem dX9_undoes_48 : decode cX9_undoes 48 = .ok (.bipush 6, 2) := by decide +kernel
theorem dX9_undoes_50 : decode cX9_undoes 50 = .ok (.iload_n 1, 1) := by decide +kernel
theorem dX9_undoes_51 : decode cX9_undoes 51 = .ok (.imul, 1) := by decide +kernel
theorem dX9_undoes_52 : decode cX9_undoes 52 = .ok (.iload_n 2, 1) := by decide +kernel
theorem dX9_undoes_53 : decode cX9_undoes 53 = .ok (.iadd, 1) := by decide +kernel
theorem dX9_undoes_54 : decode cX9_undoes 54 = .ok (.laload, 1) := by decide +kernel
theorem dX9_undoes_55 : decode cX9_undoes 55 = .ok (.lastore, 1) := by decide +kernel
theorem dX9_undoes_56 : decode cX9_undoes 56 = .ok (.aload_n 0, 1) := by decide +kernel
theorem dX9_undoes_57 : decode cX9_undoes 57 = .ok (.getfield 206, 3) := by decide +kernel
theorem dX9_undoes_60 : decode cX9_undoes 60 = .ok (.ifCond .eq 53, 3) := by decide +kernel
theorem dX9_undoes_63 : decode cX9_undoes 63 = .ok (.aload_n 0, 1) := by decide +kernel
theorem dX9_undoes_64 : decode cX9_undoes 64 = .ok (.getfield 107, 3) := by decide +kernel
theorem dX9_undoes_67 : decode cX9_undoes 67 = .ok (.bipush 6, 2) := by decide +kernel
theorem dX9_undoes_69 : decode cX9_undoes 69 = .ok (.aload_n 0, 1) := by decide +kernel
theorem dX9_undoes_70 : decode cX9_undoes 70 = .ok (.getfield 210, 3) := by decide +kernel
theorem dX9_undoes_73 : decode cX9_undoes 73 = .ok (.imul, 1) := by decide +kernel
theorem dX9_undoes_74 : decode cX9_undoes 74 = .ok (.iload_n 2, 1) := by decide +kernel
theorem dX9_undoes_75 : decode cX9_undoes 75 = .ok (.iadd, 1) := by decide +kernel
theorem dX9_undoes_76 : decode cX9_undoes 76 = .ok (.aload_n 0, 1) := by decide +kernel
theorem dX9_undoes_77 : decode cX9_undoes 77 = .ok (.getfield 147, 3) := by decide +kernel
theorem dX9_undoes_80 : decode cX9_undoes 80 = .ok (.bipush 6, 2) := by decide +kernel
theorem dX9_undoes_82 : decode cX9_undoes 82 = .ok (.iload_n 1, 1) := by decide +kernel
theorem dX9_undoes_83 : decode cX9_undoes 83 = .ok (.imul, 1) := by decide +kernel
theorem dX9_undoes_84 : decode cX9_undoes 84 = .ok (.iload_n 2, 1) := by decide +kernel
theorem dX9_undoes_85 : decode cX9_undoes 85 = .ok (.iadd, 1) := by decide +kernel
theorem dX9_undoes_86 : decode cX9_undoes 86 = .ok (.laload, 1) := by decide +kernel
theorem dX9_undoes_87 : decode cX9_undoes 87 = .ok (.lastore, 1) := by decide +kernel
theorem dX9_undoes_88 : decode cX9_undoes 88 = .ok (.aload_n 0, 1) := by decide +kernel
theorem dX9_undoes_89 : decode cX9_undoes 89 = .ok (.getfield 110, 3) := by decide +kernel
theorem dX9_undoes_92 : decode cX9_undoes 92 = .ok (.bipush 6, 2) := by decide +kernel
theorem dX9_undoes_94 : decode cX9_undoes 94 = .ok (.aload_n 0, 1) := by decide +kernel
theorem dX9_undoes_95 : decode cX9_undoes 95 = .ok (.getfield 210, 3) := by decide +kernel
theorem dX9_undoes_98 : decode cX9_undoes 98 = .ok (.imul, 1) := by decide +kernel
theorem dX9_undoes_99 : decode cX9_undoes 99 = .ok (.iload_n 2, 1) := by decide +kernel
theorem dX9_undoes_100 : decode cX9_undoes 100 = .ok (.iadd, 1) := by decide +kernel
theorem dX9_undoes_101 : decode cX9_undoes 101 = .ok (.aload_n 0, 1) := by decide +kernel
theorem dX9_undoes_102 : decode cX9_undoes 102 = .ok (.getfield 150, 3) := by decide +kernel
theorem dX9_undoes_105 : decode cX9_undoes 105 = .ok (.bipush 6, 2) := by decide +kernel
theorem dX9_undoes_107 : decode cX9_undoes 107 = .ok (.iload_n 1, 1) := by decide +kernel
theorem dX9_undoes_108 : decode cX9_undoes 108 = .ok (.imul, 1) := by decide +kernel
theorem dX9_undoes_109 : decode cX9_undoes 109 = .ok (.iload_n 2, 1) := by decide +kernel
theorem dX9_undoes_110 : decode cX9_undoes 110 = .ok (.iadd, 1) := by decide +kernel
theorem dX9_undoes_111 : decode cX9_undoes 111 = .ok (.laload, 1) := by decide +kernel
theorem dX9_undoes_112 : decode cX9_undoes 112 = .ok (.lastore, 1) := by decide +kernel
theorem dX9_undoes_113 : decode cX9_undoes 113 = .ok (.iinc 2 1, 3) := by decide +kernel
theorem dX9_undoes_116 : decode cX9_undoes 116 = .ok (.goto (-83), 3) := by decide +kernel
theorem dX9_undoes_119 : decode cX9_undoes 119 = .ok (.aload_n 0, 1) := by decide +kernel
theorem dX9_undoes_120 : decode cX9_undoes 120 = .ok (.getfield 206, 3) := by decide +kernel
theorem dX9_undoes_123 : decode cX9_undoes 123 = .ok (.ifCond .eq 18, 3) := by decide +kernel
theorem dX9_undoes_126 : decode cX9_undoes 126 = .ok (.aload_n 0, 1) := by decide +kernel
theorem dX9_undoes_127 : decode cX9_undoes 127 = .ok (.getfield 95, 3) := by decide +kernel
theorem dX9_undoes_130 : decode cX9_undoes 130 = .ok (.aload_n 0, 1) := by decide +kernel
theorem dX9_undoes_131 : decode cX9_undoes 131 = .ok (.getfield 210, 3) := by decide +kernel
theorem dX9_undoes_134 : decode cX9_undoes 134 = .ok (.aload_n 0, 1) := by decide +kernel
theorem dX9_undoes_135 : decode cX9_undoes 135 = .ok (.getfield 153, 3) := by decide +kernel
theorem dX9_undoes_138 : decode cX9_undoes 138 = .ok (.iload_n 1, 1) := by decide +kernel
theorem dX9_undoes_139 : decode cX9_undoes 139 = .ok (.iaload, 1) := by decide +kernel
theorem dX9_undoes_140 : decode cX9_undoes 140 = .ok (.iastore, 1) := by decide +kernel
theorem dX9_undoes_141 : decode cX9_undoes 141 = .ok (.return_, 1) := by decide +kernel
theorem dX9_push_0 : decode cX9_push 0 = .ok (.aload_n 0, 1) := by decide +kernel
