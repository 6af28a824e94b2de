theorem dc_M_init_0 : decode bc_M_init 0 = .ok (.aload_n 0, 1) := by decide +kernel
theorem dc_M_init_1 : decode bc_M_init 1 = .ok (.invokespecial 3, 3) := by decide +kernel
theorem dc_M_init_4 : decode bc_M_init 4 = .ok (.aload_n 0, 1) := by decide +kernel
theorem dc_M_init_5 : decode bc_M_init 5 = .ok (.bipush 16, 2) := by decide +kernel
theorem dc_M_init_7 : decode bc_M_init 7 = .ok (.anewarray 9, 3) := by decide +kernel
theorem dc_M_init_10 : decode bc_M_init 10 = .ok (.putfield 11, 3) := by decide +kernel
theorem dc_M_init_13 : decode bc_M_init 13 = .ok (.aload_n 0, 1) := by decide +kernel
theorem dc_M_init_14 : decode bc_M_init 14 = .ok (.bipush 16, 2) := by decide +kernel
theorem dc_M_init_16 : decode bc_M_init 16 = .ok (.newarray .boolean, 2) := by decide +kernel
theorem dc_M_init_18 : decode bc_M_init 18 = .ok (.putfield 15, 3) := by decide +kernel
theorem dc_M_init_21 : decode bc_M_init 21 = .ok (.aload_n 0, 1) := by decide +kernel
theorem dc_M_init_22 : decode bc_M_init 22 = .ok (.new 9, 3) := by decide +kernel
theorem dc_M_init_25 : decode bc_M_init 25 = .ok (.dup, 1) := by decide +kernel
theorem dc_M_init_26 : decode bc_M_init 26 = .ok (.invokespecial 19, 3) := by decide +kernel
theorem dc_M_init_29 : decode bc_M_init 29 = .ok (.putfield 20, 3) := by decide +kernel
theorem dc_M_init_32 : decode bc_M_init 32 = .ok (.aload_n 0, 1) := by decide +kernel
theorem dc_M_init_33 : decode bc_M_init 33 = .ok (.new 9, 3) := by decide +kernel
theorem dc_M_init_36 : decode bc_M_init 36 = .ok (.dup, 1) := by decide +kernel
theorem dc_M_init_37 : decode bc_M_init 37 = .ok (.invokespecial 19, 3) := by decide +kernel
theorem dc_M_init_40 : decode bc_M_init 40 = .ok (.putfield 24, 3) := by decide +kernel
theorem dc_M_init_43 : decode bc_M_init 43 = .ok (.aload_n 0, 1) := by decide +kernel
theorem dc_M_init_44 : decode bc_M_init 44 = .ok (.new 9, 3) := by decide +kernel
theorem dc_M_init_47 : decode bc_M_init 47 = .ok (.dup, 1) := by decide +kernel
theorem dc_M_init_48 : decode bc_M_init 48 = .ok (.invokespecial 19, 3) := by decide +kernel
theorem dc_M_init_51 : decode bc_M_init 51 = .ok (.putfield 27, 3) := by decide +kernel
theorem dc_M_init_54 : decode bc_M_init 54 = .ok (.aload_n 0, 1) := by decide +kernel
theorem dc_M_init_55 : decode bc_M_init 55 = .ok (.new 30, 3) := by decide +kernel
theorem dc_M_init_58 : decode bc_M_init 58 = .ok (.dup, 1) := by decide +kernel
theorem dc_M_init_59 : decode bc_M_init 59 = .ok (.invokespecial 32, 3) := by decide +kernel
theorem dc_M_init_62 : decode bc_M_init 62 = .ok (.putfield 33, 3) := by decide +kernel
theorem dc_M_init_65 : decode bc_M_init 65 = .ok (.aload_n 0, 1) := by decide +kernel
theorem dc_M_init_66 : decode bc_M_init 66 = .ok (.new 37, 3) := by decide +kernel
theorem dc_M_init_69 : decode bc_M_init 69 = .ok (.dup, 1) := by decide +kernel
theorem dc_M_init_70 : decode bc_M_init 70 = .ok (.invokespecial 39, 3) := by decide +kernel
theorem dc_M_init_73 : decode bc_M_init 73 = .ok (.putfield 40, 3) := by decide +kernel
theorem dc_M_init_76 : decode bc_M_init 76 = .ok (.iconst 0, 1) := by decide +kernel
theorem dc_M_init_77 : decode bc_M_init 77 = .ok (.istore_n 1, 1) := by decide +kernel
theorem dc_M_init_78 : decode bc_M_init 78 = .ok (.iload_n 1, 1) := by decide +kernel
theorem dc_M_init_79 : decode bc_M_init 79 = .ok (.bipush 16, 2) := by decide +kernel
theorem dc_M_init_81 : decode bc_M_init 81 = .ok (.if_icmp .ge 22, 3) := by decide +kernel
theorem dc_M_init_84 : decode bc_M_init 84 = .ok (.aload_n 0, 1) := by decide +kernel
theorem dc_M_init_85 : decode bc_M_init 85 = .ok (.getfield 11, 3) := by decide +kernel
theorem dc_M_init_88 : decode bc_M_init 88 = .ok (.iload_n 1, 1) := by decide +kernel
theorem dc_M_init_89 : decode bc_M_init 89 = .ok (.new 9, 3) := by decide +kernel
theorem dc_M_init_92 : decode bc_M_init 92 = .ok (.dup, 1) := by decide +kernel
theorem dc_M_init_93 : decode bc_M_init 93 = .ok (.invokespecial 19, 3) := by decide +kernel
theorem dc_M_init_96 : decode bc_M_init 96 = .ok (.aastore, 1) := by decide +kernel
theorem dc_M_init_97 : decode bc_M_init 97 = .ok (.iinc 1 1, 3) := by decide +kernel
theorem dc_M_init_100 : decode bc_M_init 100 = .ok (.goto (-22), 3) := by decide +kernel
theorem dc_M_init_103 : decode bc_M_init 103 = .ok (.return_, 1) := by decide +kernel
theorem dc_M_put_0 : decode bc_M_put 0 = .ok (.iload_n 1, 1) := by decide +kernel
theorem dc_M_put_1 : decode bc_M_put 1 = .ok (.invokestatic 44, 3) := by decide +kernel
theorem dc_M_put_4 : decode bc_M_put 4 = .ok (.ifCond .ne 5, 3) := by decide +kernel
theorem dc_M_put_7 : decode bc_M_put 7 = .ok (.iconst 0, 1) := by decide +kernel
theorem dc_M_put_8 : decode bc_M_put 8 = .ok (.ireturn, 1) := by decide +kernel
theorem dc_M_put_9 : decode bc_M_put 9 = .ok (.aload_n 0, 1) := by decide +kernel
theorem dc_M_put_10 : decode bc_M_put 10 = .ok (.getfield 20, 3) := by decide +kernel
theorem dc_M_put_13 : decode bc_M_put 13 = .ok (.lload_n 2, 1) := by decide +kernel
theorem dc_M_put_14 : decode bc_M_put 14 = .ok (.lconst 0, 1) := by decide +kernel
theorem dc_M_put_15 : decode bc_M_put 15 = .ok (.lcmp, 1) := by decide +kernel
theorem dc_M_put_16 : decode bc_M_put 16 = .ok (.ifCond .ge 8, 3) := by decide +kernel
theorem dc_M_put_19 : decode bc_M_put 19 = .ok (.lload_n 2, 1) := by decide +kernel
theorem dc_M_put_20 : decode bc_M_put 20 = .ok (.lneg, 1) := by decide +kernel
theorem dc_M_put_21 : decode bc_M_put 21 = .ok (.goto 4, 3) := by decide +kernel
theorem dc_M_put_24 : decode bc_M_put 24 = .ok (.lload_n 2, 1) := by decide +kernel
theorem dc_M_put_25 : decode bc_M_put 25 = .ok (.invokevirtual 48, 3) := by decide +kernel
theorem dc_M_put_28 : decode bc_M_put 28 = .ok (.aload_n 0, 1) := by decide +kernel
theorem dc_M_put_29 : decode bc_M_put 29 = .ok (.iload_n 1, 1) := by decide +kernel
theorem dc_M_put_30 : decode bc_M_put 30 = .ok (.lload_n 2, 1) := by decide +kernel
theorem dc_M_put_31 : decode bc_M_put 31 = .ok (.lconst 0, 1) := by decide +kernel
theorem dc_M_put_32 : decode bc_M_put 32 = .ok (.lcmp, 1) := by decide +kernel
theorem dc_M_put_33 : decode bc_M_put 33 = .ok (.ifCond .ge 7, 3) := by decide +kernel
theorem dc_M_put_36 : decode bc_M_put 36 = .ok (.iconst 1, 1) := by decide +kernel
theorem dc_M_put_37 : decode bc_M_put 37 = .ok (.goto 4, 3) := by decide +kernel
theorem dc_M_put_40 : decode bc_M_put 40 = .ok (.iconst 0, 1) := by decide +kernel
theorem dc_M_put_41 : decode bc_M_put 41 = .ok (.invokevirtual 52, 3) := by decide +kernel
theorem dc_M_put_44 : decode bc_M_put 44 = .ok (.ireturn, 1) := by decide +kernel
theorem dc_M_isRegister_0 : decode bc_M_isRegister 0 = .ok (.iload_n 0, 1) := by decide +kernel
theorem dc_M_isRegister_1 : decode bc_M_isRegister 1 = .ok (.ifCond .lt 13, 3) := by decide +kernel
theorem dc_M_isRegister_4 : decode bc_M_isRegister 4 = .ok (.iload_n 0, 1) := by decide +kernel
theorem dc_M_isRegister_5 : decode bc_M_isRegister 5 = .ok (.bipush 16, 2) := by decide +kernel
theorem dc_M_isRegister_7 : decode bc_M_isRegister 7 = .ok (.if_icmp .ge 7, 3) := by decide +kernel
theorem dc_M_isRegister_10 : decode bc_M_isRegister 10 = .ok (.iconst 1, 1) := by decide +kernel
theorem dc_M_isRegister_11 : decode bc_M_isRegister 11 = .ok (.goto 4, 3) := by decide +kernel
theorem dc_M_isRegister_14 : decode bc_M_isRegister 14 = .ok (.iconst 0, 1) := by decide +kernel
theorem dc_M_isRegister_15 : decode bc_M_isRegister 15 = .ok (.ireturn, 1) := by decide +kernel
theorem dc_M_keep_0 : decode bc_M_keep 0 = .ok (.aload_n 0, 1) := by decide +kernel
theorem dc_M_keep_1 : decode bc_M_keep 1 = .ok (.getfield 20, 3) := by decide +kernel
theorem dc_M_keep_4 : decode bc_M_keep 4 = .ok (.invokevirtual 170, 3) := by decide +kernel
theorem dc_M_keep_7 : decode bc_M_keep 7 = .ok (.ldc 150, 2) := by decide +kernel
theorem dc_M_keep_9 : decode bc_M_keep 9 = .ok (.if_icmp .le 5, 3) := by decide +kernel
theorem dc_M_keep_12 : decode bc_M_keep 12 = .ok (.iconst 0, 1) := by decide +kernel
theorem dc_M_keep_13 : decode bc_M_keep 13 = .ok (.ireturn, 1) := by decide +kernel
theorem dc_M_keep_14 : decode bc_M_keep 14 = .ok (.aload_n 0, 1) := by decide +kernel
theorem dc_M_keep_15 : decode bc_M_keep 15 = .ok (.iload_n 1, 1) := by decide +kernel
theorem dc_M_keep_16 : decode bc_M_keep 16 = .ok (.aload_n 0, 1) := by decide +kernel
theorem dc_M_keep_17 : decode bc_M_keep 17 = .ok (.getfield 20, 3) := by decide +kernel
theorem dc_M_keep_20 : decode bc_M_keep 20 = .ok (.iload_n 2, 1) := by decide +kernel
theorem dc_M_keep_21 : decode bc_M_keep 21 = .ok (.invokevirtual 105, 3) := by decide +kernel
theorem dc_M_keep_24 : decode bc_M_keep 24 = .ok (.iconst 1, 1) := by decide +kernel
theorem dc_M_keep_25 : decode bc_M_keep 25 = .ok (.ireturn, 1) := by decide +kernel
theorem dc_M_settle_0 : decode bc_M_settle 0 = .ok (.aload_n 0, 1) := by decide +kernel
theorem dc_M_settle_1 : decode bc_M_settle 1 = .ok (.getfield 11, 3) := by decide +kernel
theorem dc_M_settle_4 : decode bc_M_settle 4 = .ok (.iload_n 1, 1) := by decide +kernel
theorem dc_M_settle_5 : decode bc_M_settle 5 = .ok (.aaload, 1) := by decide +kernel
theorem dc_M_settle_6 : decode bc_M_settle 6 = .ok (.aload_n 2, 1) := by decide +kernel
theorem dc_M_settle_7 : decode bc_M_settle 7 = .ok (.invokevirtual 74, 3) := by decide +kernel
theorem dc_M_settle_10 : decode bc_M_settle 10 = .ok (.aload_n 0, 1) := by decide +kernel
theorem dc_M_settle_11 : decode bc_M_settle 11 = .ok (.getfield 15, 3) := by decide +kernel
theorem dc_M_settle_14 : decode bc_M_settle 14 = .ok (.iload_n 1, 1) := by decide +kernel
theorem dc_M_settle_15 : decode bc_M_settle 15 = .ok (.iload_n 3, 1) := by decide +kernel
theorem dc_M_settle_16 : decode bc_M_settle 16 = .ok (.ifCond .eq 14, 3) := by decide +kernel
theorem dc_M_settle_19 : decode bc_M_settle 19 = .ok (.aload_n 2, 1) := by decide +kernel
theorem dc_M_settle_20 : decode bc_M_settle 20 = .ok (.invokevirtual 89, 3) := by decide +kernel
theorem dc_M_settle_23 : decode bc_M_settle 23 = .ok (.ifCond .ne 7, 3) := by decide +kernel
theorem dc_M_settle_26 : decode bc_M_settle 26 = .ok (.iconst 1, 1) := by decide +kernel
theorem dc_M_settle_27 : decode bc_M_settle 27 = .ok (.goto 4, 3) := by decide +kernel
theorem dc_M_settle_30 : decode bc_M_settle 30 = .ok (.iconst 0, 1) := by decide +kernel
theorem dc_M_settle_31 : decode bc_M_settle 31 = .ok (.bastore, 1) := by decide +kernel
theorem dc_M_settle_32 : decode bc_M_settle 32 = .ok (.return_, 1) := by decide +kernel
theorem dc_M_push_0 : decode bc_M_push 0 = .ok (.iload_n 1, 1) := by decide +kernel
theorem dc_M_push_1 : decode bc_M_push 1 = .ok (.invokestatic 44, 3) := by decide +kernel
theorem dc_M_push_4 : decode bc_M_push 4 = .ok (.ifCond .ne 5, 3) := by decide +kernel
theorem dc_M_push_7 : decode bc_M_push 7 = .ok (.iconst 0, 1) := by decide +kernel
theorem dc_M_push_8 : decode bc_M_push 8 = .ok (.ireturn, 1) := by decide +kernel
theorem dc_M_push_9 : decode bc_M_push 9 = .ok (.aload_n 0, 1) := by decide +kernel
theorem dc_M_push_10 : decode bc_M_push 10 = .ok (.getfield 24, 3) := by decide +kernel
theorem dc_M_push_13 : decode bc_M_push 13 = .ok (.lload_n 2, 1) := by decide +kernel
theorem dc_M_push_14 : decode bc_M_push 14 = .ok (.invokevirtual 48, 3) := by decide +kernel
theorem dc_M_push_17 : decode bc_M_push 17 = .ok (.aload_n 0, 1) := by decide +kernel
theorem dc_M_push_18 : decode bc_M_push 18 = .ok (.getfield 20, 3) := by decide +kernel
theorem dc_M_push_21 : decode bc_M_push 21 = .ok (.aload_n 0, 1) := by decide +kernel
theorem dc_M_push_22 : decode bc_M_push 22 = .ok (.getfield 11, 3) := by decide +kernel
theorem dc_M_push_25 : decode bc_M_push 25 = .ok (.iload_n 1, 1) := by decide +kernel
theorem dc_M_push_26 : decode bc_M_push 26 = .ok (.aaload, 1) := by decide +kernel
theorem dc_M_push_27 : decode bc_M_push 27 = .ok (.bipush 64, 2) := by decide +kernel
theorem dc_M_push_29 : decode bc_M_push 29 = .ok (.invokevirtual 58, 3) := by decide +kernel
theorem dc_M_push_32 : decode bc_M_push 32 = .ok (.aload_n 0, 1) := by decide +kernel
theorem dc_M_push_33 : decode bc_M_push 33 = .ok (.getfield 20, 3) := by decide +kernel
theorem dc_M_push_36 : decode bc_M_push 36 = .ok (.aload_n 0, 1) := by decide +kernel
theorem dc_M_push_37 : decode bc_M_push 37 = .ok (.getfield 20, 3) := by decide +kernel
theorem dc_M_push_40 : decode bc_M_push 40 = .ok (.aload_n 0, 1) := by decide +kernel
theorem dc_M_push_41 : decode bc_M_push 41 = .ok (.getfield 24, 3) := by decide +kernel
theorem dc_M_push_44 : decode bc_M_push 44 = .ok (.invokevirtual 62, 3) := by decide +kernel
theorem dc_M_push_47 : decode bc_M_push 47 = .ok (.aload_n 0, 1) := by decide +kernel
theorem dc_M_push_48 : decode bc_M_push 48 = .ok (.iload_n 1, 1) := by decide +kernel
theorem dc_M_push_49 : decode bc_M_push 49 = .ok (.aload_n 0, 1) := by decide +kernel
theorem dc_M_push_50 : decode bc_M_push 50 = .ok (.getfield 15, 3) := by decide +kernel
theorem dc_M_push_53 : decode bc_M_push 53 = .ok (.iload_n 1, 1) := by decide +kernel
theorem dc_M_push_54 : decode bc_M_push 54 = .ok (.baload, 1) := by decide +kernel
theorem dc_M_push_55 : decode bc_M_push 55 = .ok (.invokevirtual 52, 3) := by decide +kernel
theorem dc_M_push_58 : decode bc_M_push 58 = .ok (.ireturn, 1) := by decide +kernel
theorem dc_M_spread_0 : decode bc_M_spread 0 = .ok (.iload_n 1, 1) := by decide +kernel
theorem dc_M_spread_1 : decode bc_M_spread 1 = .ok (.invokestatic 44, 3) := by decide +kernel
theorem dc_M_spread_4 : decode bc_M_spread 4 = .ok (.ifCond .eq 16, 3) := by decide +kernel
theorem dc_M_spread_7 : decode bc_M_spread 7 = .ok (.iload 4, 2) := by decide +kernel
theorem dc_M_spread_9 : decode bc_M_spread 9 = .ok (.ifCond .lt 11, 3) := by decide +kernel
theorem dc_M_spread_12 : decode bc_M_spread 12 = .ok (.iload 4, 2) := by decide +kernel
theorem dc_M_spread_14 : decode bc_M_spread 14 = .ok (.sipush 1024, 3) := by decide +kernel
theorem dc_M_spread_17 : decode bc_M_spread 17 = .ok (.if_icmp .le 5, 3) := by decide +kernel
theorem dc_M_spread_20 : decode bc_M_spread 20 = .ok (.iconst 0, 1) := by decide +kernel
theorem dc_M_spread_21 : decode bc_M_spread 21 = .ok (.ireturn, 1) := by decide +kernel
theorem dc_M_spread_22 : decode bc_M_spread 22 = .ok (.aload_n 0, 1) := by decide +kernel
theorem dc_M_spread_23 : decode bc_M_spread 23 = .ok (.getfield 20, 3) := by decide +kernel
theorem dc_M_spread_26 : decode bc_M_spread 26 = .ok (.lload_n 2, 1) := by decide +kernel
theorem dc_M_spread_27 : decode bc_M_spread 27 = .ok (.iload 4, 2) := by decide +kernel
theorem dc_M_spread_29 : decode bc_M_spread 29 = .ok (.invokevirtual 66, 3) := by decide +kernel
theorem dc_M_spread_32 : decode bc_M_spread 32 = .ok (.aload_n 0, 1) := by decide +kernel
theorem dc_M_spread_33 : decode bc_M_spread 33 = .ok (.iload_n 1, 1) := by decide +kernel
theorem dc_M_spread_34 : decode bc_M_spread 34 = .ok (.iconst 0, 1) := by decide +kernel
theorem dc_M_spread_35 : decode bc_M_spread 35 = .ok (.invokevirtual 52, 3) := by decide +kernel
theorem dc_M_spread_38 : decode bc_M_spread 38 = .ok (.ireturn, 1) := by decide +kernel
theorem dc_M_negate_0 : decode bc_M_negate 0 = .ok (.iload_n 1, 1) := by decide +kernel
theorem dc_M_negate_1 : decode bc_M_negate 1 = .ok (.iload_n 2, 1) := by decide +kernel
theorem dc_M_negate_2 : decode bc_M_negate 2 = .ok (.invokestatic 70, 3) := by decide +kernel
theorem dc_M_negate_5 : decode bc_M_negate 5 = .ok (.ifCond .ne 5, 3) := by decide +kernel
theorem dc_M_negate_8 : decode bc_M_negate 8 = .ok (.iconst 0, 1) := by decide +kernel
theorem dc_M_negate_9 : decode bc_M_negate 9 = .ok (.ireturn, 1) := by decide +kernel
theorem dc_M_negate_10 : decode bc_M_negate 10 = .ok (.aload_n 0, 1) := by decide +kernel
theorem dc_M_negate_11 : decode bc_M_negate 11 = .ok (.getfield 20, 3) := by decide +kernel
theorem dc_M_negate_14 : decode bc_M_negate 14 = .ok (.aload_n 0, 1) := by decide +kernel
theorem dc_M_negate_15 : decode bc_M_negate 15 = .ok (.getfield 11, 3) := by decide +kernel
theorem dc_M_negate_18 : decode bc_M_negate 18 = .ok (.iload_n 2, 1) := by decide +kernel
theorem dc_M_negate_19 : decode bc_M_negate 19 = .ok (.aaload, 1) := by decide +kernel
theorem dc_M_negate_20 : decode bc_M_negate 20 = .ok (.invokevirtual 74, 3) := by decide +kernel
theorem dc_M_negate_23 : decode bc_M_negate 23 = .ok (.aload_n 0, 1) := by decide +kernel
theorem dc_M_negate_24 : decode bc_M_negate 24 = .ok (.iload_n 1, 1) := by decide +kernel
theorem dc_M_negate_25 : decode bc_M_negate 25 = .ok (.aload_n 0, 1) := by decide +kernel
theorem dc_M_negate_26 : decode bc_M_negate 26 = .ok (.getfield 15, 3) := by decide +kernel
theorem dc_M_negate_29 : decode bc_M_negate 29 = .ok (.iload_n 2, 1) := by decide +kernel
theorem dc_M_negate_30 : decode bc_M_negate 30 = .ok (.baload, 1) := by decide +kernel
theorem dc_M_negate_31 : decode bc_M_negate 31 = .ok (.ifCond .ne 7, 3) := by decide +kernel
theorem dc_M_negate_34 : decode bc_M_negate 34 = .ok (.iconst 1, 1) := by decide +kernel
theorem dc_M_negate_35 : decode bc_M_negate 35 = .ok (.goto 4, 3) := by decide +kernel
theorem dc_M_negate_38 : decode bc_M_negate 38 = .ok (.iconst 0, 1) := by decide +kernel
theorem dc_M_negate_39 : decode bc_M_negate 39 = .ok (.invokevirtual 52, 3) := by decide +kernel
theorem dc_M_negate_42 : decode bc_M_negate 42 = .ok (.ireturn, 1) := by decide +kernel
theorem dc_M_areRegisters_0 : decode bc_M_areRegisters 0 = .ok (.iload_n 0, 1) := by decide +kernel
theorem dc_M_areRegisters_1 : decode bc_M_areRegisters 1 = .ok (.invokestatic 44, 3) := by decide +kernel
theorem dc_M_areRegisters_4 : decode bc_M_areRegisters 4 = .ok (.ifCond .eq 14, 3) := by decide +kernel
theorem dc_M_areRegisters_7 : decode bc_M_areRegisters 7 = .ok (.iload_n 1, 1) := by decide +kernel
theorem dc_M_areRegisters_8 : decode bc_M_areRegisters 8 = .ok (.invokestatic 44, 3) := by decide +kernel
theorem dc_M_areRegisters_11 : decode bc_M_areRegisters 11 = .ok (.ifCond .eq 7, 3) := by decide +kernel
theorem dc_M_areRegisters_14 : decode bc_M_areRegisters 14 = .ok (.iconst 1, 1) := by decide +kernel
theorem dc_M_areRegisters_15 : decode bc_M_areRegisters 15 = .ok (.goto 4, 3) := by decide +kernel
theorem dc_M_areRegisters_18 : decode bc_M_areRegisters 18 = .ok (.iconst 0, 1) := by decide +kernel
theorem dc_M_areRegisters_19 : decode bc_M_areRegisters 19 = .ok (.ireturn, 1) := by decide +kernel
theorem dc_M_add_0 : decode bc_M_add 0 = .ok (.iload_n 1, 1) := by decide +kernel
theorem dc_M_add_1 : decode bc_M_add 1 = .ok (.iload_n 2, 1) := by decide +kernel
theorem dc_M_add_2 : decode bc_M_add 2 = .ok (.invokestatic 70, 3) := by decide +kernel
theorem dc_M_add_5 : decode bc_M_add 5 = .ok (.ifCond .eq 10, 3) := by decide +kernel
theorem dc_M_add_8 : decode bc_M_add 8 = .ok (.iload_n 3, 1) := by decide +kernel
theorem dc_M_add_9 : decode bc_M_add 9 = .ok (.invokestatic 44, 3) := by decide +kernel
theorem dc_M_add_12 : decode bc_M_add 12 = .ok (.ifCond .ne 5, 3) := by decide +kernel
theorem dc_M_add_15 : decode bc_M_add 15 = .ok (.iconst 0, 1) := by decide +kernel
theorem dc_M_add_16 : decode bc_M_add 16 = .ok (.ireturn, 1) := by decide +kernel
theorem dc_M_add_17 : decode bc_M_add 17 = .ok (.aload_n 0, 1) := by decide +kernel
theorem dc_M_add_18 : decode bc_M_add 18 = .ok (.iload_n 1, 1) := by decide +kernel
theorem dc_M_add_19 : decode bc_M_add 19 = .ok (.iload_n 2, 1) := by decide +kernel
theorem dc_M_add_20 : decode bc_M_add 20 = .ok (.aload_n 0, 1) := by decide +kernel
theorem dc_M_add_21 : decode bc_M_add 21 = .ok (.getfield 11, 3) := by decide +kernel
theorem dc_M_add_24 : decode bc_M_add 24 = .ok (.iload_n 3, 1) := by decide +kernel
theorem dc_M_add_25 : decode bc_M_add 25 = .ok (.aaload, 1) := by decide +kernel
theorem dc_M_add_26 : decode bc_M_add 26 = .ok (.aload_n 0, 1) := by decide +kernel
theorem dc_M_add_27 : decode bc_M_add 27 = .ok (.getfield 15, 3) := by decide +kernel
theorem dc_M_add_30 : decode bc_M_add 30 = .ok (.iload_n 3, 1) := by decide +kernel
theorem dc_M_add_31 : decode bc_M_add 31 = .ok (.baload, 1) := by decide +kernel
theorem dc_M_add_32 : decode bc_M_add 32 = .ok (.invokevirtual 78, 3) := by decide +kernel
theorem dc_M_add_35 : decode bc_M_add 35 = .ok (.ireturn, 1) := by decide +kernel
theorem dc_M_keepSum_0 : decode bc_M_keepSum 0 = .ok (.aload_n 0, 1) := by decide +kernel
theorem dc_M_keepSum_1 : decode bc_M_keepSum 1 = .ok (.getfield 15, 3) := by decide +kernel
theorem dc_M_keepSum_4 : decode bc_M_keepSum 4 = .ok (.iload_n 2, 1) := by decide +kernel
theorem dc_M_keepSum_5 : decode bc_M_keepSum 5 = .ok (.baload, 1) := by decide +kernel
theorem dc_M_keepSum_6 : decode bc_M_keepSum 6 = .ok (.iload 4, 2) := by decide +kernel
theorem dc_M_keepSum_8 : decode bc_M_keepSum 8 = .ok (.if_icmp .ne 25, 3) := by decide +kernel
theorem dc_M_keepSum_11 : decode bc_M_keepSum 11 = .ok (.aload_n 0, 1) := by decide +kernel
theorem dc_M_keepSum_12 : decode bc_M_keepSum 12 = .ok (.getfield 20, 3) := by decide +kernel
theorem dc_M_keepSum_15 : decode bc_M_keepSum 15 = .ok (.aload_n 0, 1) := by decide +kernel
theorem dc_M_keepSum_16 : decode bc_M_keepSum 16 = .ok (.getfield 11, 3) := by decide +kernel
theorem dc_M_keepSum_19 : decode bc_M_keepSum 19 = .ok (.iload_n 2, 1) := by decide +kernel
theorem dc_M_keepSum_20 : decode bc_M_keepSum 20 = .ok (.aaload, 1) := by decide +kernel
theorem dc_M_keepSum_21 : decode bc_M_keepSum 21 = .ok (.aload_n 3, 1) := by decide +kernel
theorem dc_M_keepSum_22 : decode bc_M_keepSum 22 = .ok (.invokevirtual 62, 3) := by decide +kernel
theorem dc_M_keepSum_25 : decode bc_M_keepSum 25 = .ok (.aload_n 0, 1) := by decide +kernel
theorem dc_M_keepSum_26 : decode bc_M_keepSum 26 = .ok (.iload_n 1, 1) := by decide +kernel
theorem dc_M_keepSum_27 : decode bc_M_keepSum 27 = .ok (.iload 4, 2) := by decide +kernel
theorem dc_M_keepSum_29 : decode bc_M_keepSum 29 = .ok (.invokevirtual 52, 3) := by decide +kernel
theorem dc_M_keepSum_32 : decode bc_M_keepSum 32 = .ok (.ireturn, 1) := by decide +kernel
theorem dc_M_keepSum_33 : decode bc_M_keepSum 33 = .ok (.aload_n 0, 1) := by decide +kernel
theorem dc_M_keepSum_34 : decode bc_M_keepSum 34 = .ok (.getfield 11, 3) := by decide +kernel
theorem dc_M_keepSum_37 : decode bc_M_keepSum 37 = .ok (.iload_n 2, 1) := by decide +kernel
theorem dc_M_keepSum_38 : decode bc_M_keepSum 38 = .ok (.aaload, 1) := by decide +kernel
theorem dc_M_keepSum_39 : decode bc_M_keepSum 39 = .ok (.aload_n 3, 1) := by decide +kernel
theorem dc_M_keepSum_40 : decode bc_M_keepSum 40 = .ok (.invokevirtual 182, 3) := by decide +kernel
theorem dc_M_keepSum_43 : decode bc_M_keepSum 43 = .ok (.ifCond .lt 29, 3) := by decide +kernel
theorem dc_M_keepSum_46 : decode bc_M_keepSum 46 = .ok (.aload_n 0, 1) := by decide +kernel
theorem dc_M_keepSum_47 : decode bc_M_keepSum 47 = .ok (.getfield 20, 3) := by decide +kernel
theorem dc_M_keepSum_50 : decode bc_M_keepSum 50 = .ok (.aload_n 0, 1) := by decide +kernel
theorem dc_M_keepSum_51 : decode bc_M_keepSum 51 = .ok (.getfield 11, 3) := by decide +kernel
theorem dc_M_keepSum_54 : decode bc_M_keepSum 54 = .ok (.iload_n 2, 1) := by decide +kernel
theorem dc_M_keepSum_55 : decode bc_M_keepSum 55 = .ok (.aaload, 1) := by decide +kernel
theorem dc_M_keepSum_56 : decode bc_M_keepSum 56 = .ok (.aload_n 3, 1) := by decide +kernel
theorem dc_M_keepSum_57 : decode bc_M_keepSum 57 = .ok (.invokevirtual 102, 3) := by decide +kernel
theorem dc_M_keepSum_60 : decode bc_M_keepSum 60 = .ok (.aload_n 0, 1) := by decide +kernel
theorem dc_M_keepSum_61 : decode bc_M_keepSum 61 = .ok (.iload_n 1, 1) := by decide +kernel
theorem dc_M_keepSum_62 : decode bc_M_keepSum 62 = .ok (.aload_n 0, 1) := by decide +kernel
theorem dc_M_keepSum_63 : decode bc_M_keepSum 63 = .ok (.getfield 15, 3) := by decide +kernel
theorem dc_M_keepSum_66 : decode bc_M_keepSum 66 = .ok (.iload_n 2, 1) := by decide +kernel
theorem dc_M_keepSum_67 : decode bc_M_keepSum 67 = .ok (.baload, 1) := by decide +kernel
theorem dc_M_keepSum_68 : decode bc_M_keepSum 68 = .ok (.invokevirtual 52, 3) := by decide +kernel
theorem dc_M_keepSum_71 : decode bc_M_keepSum 71 = .ok (.ireturn, 1) := by decide +kernel
theorem dc_M_keepSum_72 : decode bc_M_keepSum 72 = .ok (.aload_n 0, 1) := by decide +kernel
theorem dc_M_keepSum_73 : decode bc_M_keepSum 73 = .ok (.getfield 20, 3) := by decide +kernel
theorem dc_M_keepSum_76 : decode bc_M_keepSum 76 = .ok (.aload_n 3, 1) := by decide +kernel
theorem dc_M_keepSum_77 : decode bc_M_keepSum 77 = .ok (.aload_n 0, 1) := by decide +kernel
theorem dc_M_keepSum_78 : decode bc_M_keepSum 78 = .ok (.getfield 11, 3) := by decide +kernel
theorem dc_M_keepSum_81 : decode bc_M_keepSum 81 = .ok (.iload_n 2, 1) := by decide +kernel
theorem dc_M_keepSum_82 : decode bc_M_keepSum 82 = .ok (.aaload, 1) := by decide +kernel
theorem dc_M_keepSum_83 : decode bc_M_keepSum 83 = .ok (.invokevirtual 102, 3) := by decide +kernel
theorem dc_M_keepSum_86 : decode bc_M_keepSum 86 = .ok (.aload_n 0, 1) := by decide +kernel
theorem dc_M_keepSum_87 : decode bc_M_keepSum 87 = .ok (.iload_n 1, 1) := by decide +kernel
theorem dc_M_keepSum_88 : decode bc_M_keepSum 88 = .ok (.iload 4, 2) := by decide +kernel
theorem dc_M_keepSum_90 : decode bc_M_keepSum 90 = .ok (.invokevirtual 52, 3) := by decide +kernel
theorem dc_M_keepSum_93 : decode bc_M_keepSum 93 = .ok (.ireturn, 1) := by decide +kernel
theorem dc_M_take_0 : decode bc_M_take 0 = .ok (.iload_n 1, 1) := by decide +kernel
theorem dc_M_take_1 : decode bc_M_take 1 = .ok (.iload_n 2, 1) := by decide +kernel
theorem dc_M_take_2 : decode bc_M_take 2 = .ok (.invokestatic 70, 3) := by decide +kernel
theorem dc_M_take_5 : decode bc_M_take 5 = .ok (.ifCond .eq 10, 3) := by decide +kernel
theorem dc_M_take_8 : decode bc_M_take 8 = .ok (.iload_n 3, 1) := by decide +kernel
theorem dc_M_take_9 : decode bc_M_take 9 = .ok (.invokestatic 44, 3) := by decide +kernel
theorem dc_M_take_12 : decode bc_M_take 12 = .ok (.ifCond .ne 5, 3) := by decide +kernel
theorem dc_M_take_15 : decode bc_M_take 15 = .ok (.iconst 0, 1) := by decide +kernel
theorem dc_M_take_16 : decode bc_M_take 16 = .ok (.ireturn, 1) := by decide +kernel
theorem dc_M_take_17 : decode bc_M_take 17 = .ok (.aload_n 0, 1) := by decide +kernel
theorem dc_M_take_18 : decode bc_M_take 18 = .ok (.iload_n 1, 1) := by decide +kernel
theorem dc_M_take_19 : decode bc_M_take 19 = .ok (.iload_n 2, 1) := by decide +kernel
theorem dc_M_take_20 : decode bc_M_take 20 = .ok (.aload_n 0, 1) := by decide +kernel
theorem dc_M_take_21 : decode bc_M_take 21 = .ok (.getfield 11, 3) := by decide +kernel
theorem dc_M_take_24 : decode bc_M_take 24 = .ok (.iload_n 3, 1) := by decide +kernel
theorem dc_M_take_25 : decode bc_M_take 25 = .ok (.aaload, 1) := by decide +kernel
theorem dc_M_take_26 : decode bc_M_take 26 = .ok (.aload_n 0, 1) := by decide +kernel
theorem dc_M_take_27 : decode bc_M_take 27 = .ok (.getfield 15, 3) := by decide +kernel
theorem dc_M_take_30 : decode bc_M_take 30 = .ok (.iload_n 3, 1) := by decide +kernel
theorem dc_M_take_31 : decode bc_M_take 31 = .ok (.baload, 1) := by decide +kernel
theorem dc_M_take_32 : decode bc_M_take 32 = .ok (.ifCond .ne 7, 3) := by decide +kernel
theorem dc_M_take_35 : decode bc_M_take 35 = .ok (.iconst 1, 1) := by decide +kernel
theorem dc_M_take_36 : decode bc_M_take 36 = .ok (.goto 4, 3) := by decide +kernel
theorem dc_M_take_39 : decode bc_M_take 39 = .ok (.iconst 0, 1) := by decide +kernel
theorem dc_M_take_40 : decode bc_M_take 40 = .ok (.invokevirtual 78, 3) := by decide +kernel
theorem dc_M_take_43 : decode bc_M_take 43 = .ok (.ireturn, 1) := by decide +kernel
theorem dc_M_times_0 : decode bc_M_times 0 = .ok (.iload_n 1, 1) := by decide +kernel
theorem dc_M_times_1 : decode bc_M_times 1 = .ok (.iload_n 2, 1) := by decide +kernel
theorem dc_M_times_2 : decode bc_M_times 2 = .ok (.invokestatic 70, 3) := by decide +kernel
theorem dc_M_times_5 : decode bc_M_times 5 = .ok (.ifCond .eq 10, 3) := by decide +kernel
theorem dc_M_times_8 : decode bc_M_times 8 = .ok (.iload_n 3, 1) := by decide +kernel
theorem dc_M_times_9 : decode bc_M_times 9 = .ok (.invokestatic 44, 3) := by decide +kernel
theorem dc_M_times_12 : decode bc_M_times 12 = .ok (.ifCond .ne 5, 3) := by decide +kernel
theorem dc_M_times_15 : decode bc_M_times 15 = .ok (.iconst 0, 1) := by decide +kernel
theorem dc_M_times_16 : decode bc_M_times 16 = .ok (.ireturn, 1) := by decide +kernel
theorem dc_M_times_17 : decode bc_M_times 17 = .ok (.aload_n 0, 1) := by decide +kernel
theorem dc_M_times_18 : decode bc_M_times 18 = .ok (.getfield 11, 3) := by decide +kernel
theorem dc_M_times_21 : decode bc_M_times 21 = .ok (.iload_n 2, 1) := by decide +kernel
theorem dc_M_times_22 : decode bc_M_times 22 = .ok (.aaload, 1) := by decide +kernel
theorem dc_M_times_23 : decode bc_M_times 23 = .ok (.aload_n 0, 1) := by decide +kernel
theorem dc_M_times_24 : decode bc_M_times 24 = .ok (.getfield 11, 3) := by decide +kernel
theorem dc_M_times_27 : decode bc_M_times 27 = .ok (.iload_n 3, 1) := by decide +kernel
theorem dc_M_times_28 : decode bc_M_times 28 = .ok (.aaload, 1) := by decide +kernel
theorem dc_M_times_29 : decode bc_M_times 29 = .ok (.invokestatic 82, 3) := by decide +kernel
theorem dc_M_times_32 : decode bc_M_times 32 = .ok (.ifCond .eq 5, 3) := by decide +kernel
theorem dc_M_times_35 : decode bc_M_times 35 = .ok (.iconst 0, 1) := by decide +kernel
theorem dc_M_times_36 : decode bc_M_times 36 = .ok (.ireturn, 1) := by decide +kernel
theorem dc_M_times_37 : decode bc_M_times 37 = .ok (.aload_n 0, 1) := by decide +kernel
theorem dc_M_times_38 : decode bc_M_times 38 = .ok (.getfield 20, 3) := by decide +kernel
theorem dc_M_times_41 : decode bc_M_times 41 = .ok (.aload_n 0, 1) := by decide +kernel
theorem dc_M_times_42 : decode bc_M_times 42 = .ok (.getfield 11, 3) := by decide +kernel
theorem dc_M_times_45 : decode bc_M_times 45 = .ok (.iload_n 2, 1) := by decide +kernel
theorem dc_M_times_46 : decode bc_M_times 46 = .ok (.aaload, 1) := by decide +kernel
theorem dc_M_times_47 : decode bc_M_times 47 = .ok (.aload_n 0, 1) := by decide +kernel
theorem dc_M_times_48 : decode bc_M_times 48 = .ok (.getfield 11, 3) := by decide +kernel
theorem dc_M_times_51 : decode bc_M_times 51 = .ok (.iload_n 3, 1) := by decide +kernel
theorem dc_M_times_52 : decode bc_M_times 52 = .ok (.aaload, 1) := by decide +kernel
theorem dc_M_times_53 : decode bc_M_times 53 = .ok (.invokevirtual 86, 3) := by decide +kernel
theorem dc_M_times_56 : decode bc_M_times 56 = .ok (.aload_n 0, 1) := by decide +kernel
theorem dc_M_times_57 : decode bc_M_times 57 = .ok (.iload_n 1, 1) := by decide +kernel
theorem dc_M_times_58 : decode bc_M_times 58 = .ok (.aload_n 0, 1) := by decide +kernel
theorem dc_M_times_59 : decode bc_M_times 59 = .ok (.getfield 15, 3) := by decide +kernel
theorem dc_M_times_62 : decode bc_M_times 62 = .ok (.iload_n 2, 1) := by decide +kernel
theorem dc_M_times_63 : decode bc_M_times 63 = .ok (.baload, 1) := by decide +kernel
theorem dc_M_times_64 : decode bc_M_times 64 = .ok (.aload_n 0, 1) := by decide +kernel
theorem dc_M_times_65 : decode bc_M_times 65 = .ok (.getfield 15, 3) := by decide +kernel
theorem dc_M_times_68 : decode bc_M_times 68 = .ok (.iload_n 3, 1) := by decide +kernel
theorem dc_M_times_69 : decode bc_M_times 69 = .ok (.baload, 1) := by decide +kernel
theorem dc_M_times_70 : decode bc_M_times 70 = .ok (.if_icmp .eq 7, 3) := by decide +kernel
theorem dc_M_times_73 : decode bc_M_times 73 = .ok (.iconst 1, 1) := by decide +kernel
theorem dc_M_times_74 : decode bc_M_times 74 = .ok (.goto 4, 3) := by decide +kernel
theorem dc_M_times_77 : decode bc_M_times 77 = .ok (.iconst 0, 1) := by decide +kernel
theorem dc_M_times_78 : decode bc_M_times 78 = .ok (.invokevirtual 52, 3) := by decide +kernel
theorem dc_M_times_81 : decode bc_M_times 81 = .ok (.ireturn, 1) := by decide +kernel
theorem dc_M_isProductTooLong_0 : decode bc_M_isProductTooLong 0 = .ok (.aload_n 0, 1) := by decide +kernel
theorem dc_M_isProductTooLong_1 : decode bc_M_isProductTooLong 1 = .ok (.invokevirtual 170, 3) := by decide +kernel
theorem dc_M_isProductTooLong_4 : decode bc_M_isProductTooLong 4 = .ok (.aload_n 1, 1) := by decide +kernel
theorem dc_M_isProductTooLong_5 : decode bc_M_isProductTooLong 5 = .ok (.invokevirtual 170, 3) := by decide +kernel
theorem dc_M_isProductTooLong_8 : decode bc_M_isProductTooLong 8 = .ok (.iadd, 1) := by decide +kernel
theorem dc_M_isProductTooLong_9 : decode bc_M_isProductTooLong 9 = .ok (.ldc 192, 2) := by decide +kernel
theorem dc_M_isProductTooLong_11 : decode bc_M_isProductTooLong 11 = .ok (.if_icmp .le 7, 3) := by decide +kernel
theorem dc_M_isProductTooLong_14 : decode bc_M_isProductTooLong 14 = .ok (.iconst 1, 1) := by decide +kernel
theorem dc_M_isProductTooLong_15 : decode bc_M_isProductTooLong 15 = .ok (.goto 4, 3) := by decide +kernel
theorem dc_M_isProductTooLong_18 : decode bc_M_isProductTooLong 18 = .ok (.iconst 0, 1) := by decide +kernel
theorem dc_M_isProductTooLong_19 : decode bc_M_isProductTooLong 19 = .ok (.ireturn, 1) := by decide +kernel
theorem dc_M_divide_0 : decode bc_M_divide 0 = .ok (.iload_n 1, 1) := by decide +kernel
theorem dc_M_divide_1 : decode bc_M_divide 1 = .ok (.iload_n 2, 1) := by decide +kernel
theorem dc_M_divide_2 : decode bc_M_divide 2 = .ok (.invokestatic 70, 3) := by decide +kernel
theorem dc_M_divide_5 : decode bc_M_divide 5 = .ok (.ifCond .eq 12, 3) := by decide +kernel
theorem dc_M_divide_8 : decode bc_M_divide 8 = .ok (.iload_n 3, 1) := by decide +kernel
theorem dc_M_divide_9 : decode bc_M_divide 9 = .ok (.iload 4, 2) := by decide +kernel
theorem dc_M_divide_11 : decode bc_M_divide 11 = .ok (.invokestatic 70, 3) := by decide +kernel
theorem dc_M_divide_14 : decode bc_M_divide 14 = .ok (.ifCond .ne 5, 3) := by decide +kernel
theorem dc_M_divide_17 : decode bc_M_divide 17 = .ok (.iconst 0, 1) := by decide +kernel
theorem dc_M_divide_18 : decode bc_M_divide 18 = .ok (.ireturn, 1) := by decide +kernel
theorem dc_M_divide_19 : decode bc_M_divide 19 = .ok (.iload_n 1, 1) := by decide +kernel
theorem dc_M_divide_20 : decode bc_M_divide 20 = .ok (.iload_n 2, 1) := by decide +kernel
theorem dc_M_divide_21 : decode bc_M_divide 21 = .ok (.if_icmp .eq 16, 3) := by decide +kernel
theorem dc_M_divide_24 : decode bc_M_divide 24 = .ok (.aload_n 0, 1) := by decide +kernel
theorem dc_M_divide_25 : decode bc_M_divide 25 = .ok (.getfield 11, 3) := by decide +kernel
theorem dc_M_divide_28 : decode bc_M_divide 28 = .ok (.iload 4, 2) := by decide +kernel
theorem dc_M_divide_30 : decode bc_M_divide 30 = .ok (.aaload, 1) := by decide +kernel
theorem dc_M_divide_31 : decode bc_M_divide 31 = .ok (.invokevirtual 89, 3) := by decide +kernel
theorem dc_M_divide_34 : decode bc_M_divide 34 = .ok (.ifCond .eq 5, 3) := by decide +kernel
theorem dc_M_divide_37 : decode bc_M_divide 37 = .ok (.iconst 0, 1) := by decide +kernel
theorem dc_M_divide_38 : decode bc_M_divide 38 = .ok (.ireturn, 1) := by decide +kernel
theorem dc_M_divide_39 : decode bc_M_divide 39 = .ok (.aload_n 0, 1) := by decide +kernel
theorem dc_M_divide_40 : decode bc_M_divide 40 = .ok (.getfield 15, 3) := by decide +kernel
theorem dc_M_divide_43 : decode bc_M_divide 43 = .ok (.iload_n 3, 1) := by decide +kernel
theorem dc_M_divide_44 : decode bc_M_divide 44 = .ok (.baload, 1) := by decide +kernel
theorem dc_M_divide_45 : decode bc_M_divide 45 = .ok (.aload_n 0, 1) := by decide +kernel
theorem dc_M_divide_46 : decode bc_M_divide 46 = .ok (.getfield 15, 3) := by decide +kernel
theorem dc_M_divide_49 : decode bc_M_divide 49 = .ok (.iload 4, 2) := by decide +kernel
theorem dc_M_divide_51 : decode bc_M_divide 51 = .ok (.baload, 1) := by decide +kernel
theorem dc_M_divide_52 : decode bc_M_divide 52 = .ok (.if_icmp .eq 7, 3) := by decide +kernel
theorem dc_M_divide_55 : decode bc_M_divide 55 = .ok (.iconst 1, 1) := by decide +kernel
theorem dc_M_divide_56 : decode bc_M_divide 56 = .ok (.goto 4, 3) := by decide +kernel
theorem dc_M_divide_59 : decode bc_M_divide 59 = .ok (.iconst 0, 1) := by decide +kernel
theorem dc_M_divide_60 : decode bc_M_divide 60 = .ok (.istore 6, 2) := by decide +kernel
theorem dc_M_divide_62 : decode bc_M_divide 62 = .ok (.aload_n 0, 1) := by decide +kernel
theorem dc_M_divide_63 : decode bc_M_divide 63 = .ok (.getfield 15, 3) := by decide +kernel
theorem dc_M_divide_66 : decode bc_M_divide 66 = .ok (.iload_n 3, 1) := by decide +kernel
theorem dc_M_divide_67 : decode bc_M_divide 67 = .ok (.baload, 1) := by decide +kernel
theorem dc_M_divide_68 : decode bc_M_divide 68 = .ok (.istore 7, 2) := by decide +kernel
theorem dc_M_divide_70 : decode bc_M_divide 70 = .ok (.aload_n 0, 1) := by decide +kernel
theorem dc_M_divide_71 : decode bc_M_divide 71 = .ok (.getfield 33, 3) := by decide +kernel
theorem dc_M_divide_74 : decode bc_M_divide 74 = .ok (.aload_n 0, 1) := by decide +kernel
theorem dc_M_divide_75 : decode bc_M_divide 75 = .ok (.getfield 11, 3) := by decide +kernel
theorem dc_M_divide_78 : decode bc_M_divide 78 = .ok (.iload_n 3, 1) := by decide +kernel
theorem dc_M_divide_79 : decode bc_M_divide 79 = .ok (.aaload, 1) := by decide +kernel
theorem dc_M_divide_80 : decode bc_M_divide 80 = .ok (.aload_n 0, 1) := by decide +kernel
theorem dc_M_divide_81 : decode bc_M_divide 81 = .ok (.getfield 11, 3) := by decide +kernel
theorem dc_M_divide_84 : decode bc_M_divide 84 = .ok (.iload 4, 2) := by decide +kernel
theorem dc_M_divide_86 : decode bc_M_divide 86 = .ok (.aaload, 1) := by decide +kernel
theorem dc_M_divide_87 : decode bc_M_divide 87 = .ok (.invokevirtual 93, 3) := by decide +kernel
theorem dc_M_divide_90 : decode bc_M_divide 90 = .ok (.iload 5, 2) := by decide +kernel
theorem dc_M_divide_92 : decode bc_M_divide 92 = .ok (.ifCond .eq 83, 3) := by decide +kernel
theorem dc_M_divide_95 : decode bc_M_divide 95 = .ok (.iload 6, 2) := by decide +kernel
theorem dc_M_divide_97 : decode bc_M_divide 97 = .ok (.ifCond .eq 78, 3) := by decide +kernel
theorem dc_M_divide_100 : decode bc_M_divide 100 = .ok (.aload_n 0, 1) := by decide +kernel
theorem dc_M_divide_101 : decode bc_M_divide 101 = .ok (.getfield 33, 3) := by decide +kernel
theorem dc_M_divide_104 : decode bc_M_divide 104 = .ok (.getfield 96, 3) := by decide +kernel
theorem dc_M_divide_107 : decode bc_M_divide 107 = .ok (.invokevirtual 89, 3) := by decide +kernel
theorem dc_M_divide_110 : decode bc_M_divide 110 = .ok (.ifCond .ne 65, 3) := by decide +kernel
theorem dc_M_divide_113 : decode bc_M_divide 113 = .ok (.aload_n 0, 1) := by decide +kernel
theorem dc_M_divide_114 : decode bc_M_divide 114 = .ok (.getfield 24, 3) := by decide +kernel
theorem dc_M_divide_117 : decode bc_M_divide 117 = .ok (.lconst 1, 1) := by decide +kernel
theorem dc_M_divide_118 : decode bc_M_divide 118 = .ok (.invokevirtual 48, 3) := by decide +kernel
theorem dc_M_divide_121 : decode bc_M_divide 121 = .ok (.aload_n 0, 1) := by decide +kernel
theorem dc_M_divide_122 : decode bc_M_divide 122 = .ok (.getfield 33, 3) := by decide +kernel
theorem dc_M_divide_125 : decode bc_M_divide 125 = .ok (.getfield 99, 3) := by decide +kernel
theorem dc_M_divide_128 : decode bc_M_divide 128 = .ok (.aload_n 0, 1) := by decide +kernel
theorem dc_M_divide_129 : decode bc_M_divide 129 = .ok (.getfield 33, 3) := by decide +kernel
theorem dc_M_divide_132 : decode bc_M_divide 132 = .ok (.getfield 99, 3) := by decide +kernel
theorem dc_M_divide_135 : decode bc_M_divide 135 = .ok (.aload_n 0, 1) := by decide +kernel
theorem dc_M_divide_136 : decode bc_M_divide 136 = .ok (.getfield 24, 3) := by decide +kernel
theorem dc_M_divide_139 : decode bc_M_divide 139 = .ok (.invokevirtual 62, 3) := by decide +kernel
theorem dc_M_divide_142 : decode bc_M_divide 142 = .ok (.aload_n 0, 1) := by decide +kernel
theorem dc_M_divide_143 : decode bc_M_divide 143 = .ok (.getfield 33, 3) := by decide +kernel
theorem dc_M_divide_146 : decode bc_M_divide 146 = .ok (.getfield 96, 3) := by decide +kernel
theorem dc_M_divide_149 : decode bc_M_divide 149 = .ok (.aload_n 0, 1) := by decide +kernel
theorem dc_M_divide_150 : decode bc_M_divide 150 = .ok (.getfield 11, 3) := by decide +kernel
theorem dc_M_divide_153 : decode bc_M_divide 153 = .ok (.iload 4, 2) := by decide +kernel
theorem dc_M_divide_155 : decode bc_M_divide 155 = .ok (.aaload, 1) := by decide +kernel
theorem dc_M_divide_156 : decode bc_M_divide 156 = .ok (.aload_n 0, 1) := by decide +kernel
theorem dc_M_divide_157 : decode bc_M_divide 157 = .ok (.getfield 33, 3) := by decide +kernel
theorem dc_M_divide_160 : decode bc_M_divide 160 = .ok (.getfield 96, 3) := by decide +kernel
theorem dc_M_divide_163 : decode bc_M_divide 163 = .ok (.invokevirtual 102, 3) := by decide +kernel
theorem dc_M_divide_166 : decode bc_M_divide 166 = .ok (.aload_n 0, 1) := by decide +kernel
theorem dc_M_divide_167 : decode bc_M_divide 167 = .ok (.getfield 15, 3) := by decide +kernel
theorem dc_M_divide_170 : decode bc_M_divide 170 = .ok (.iload 4, 2) := by decide +kernel
theorem dc_M_divide_172 : decode bc_M_divide 172 = .ok (.baload, 1) := by decide +kernel
theorem dc_M_divide_173 : decode bc_M_divide 173 = .ok (.istore 7, 2) := by decide +kernel
theorem dc_M_divide_175 : decode bc_M_divide 175 = .ok (.aload_n 0, 1) := by decide +kernel
theorem dc_M_divide_176 : decode bc_M_divide 176 = .ok (.iload_n 1, 1) := by decide +kernel
theorem dc_M_divide_177 : decode bc_M_divide 177 = .ok (.aload_n 0, 1) := by decide +kernel
theorem dc_M_divide_178 : decode bc_M_divide 178 = .ok (.getfield 33, 3) := by decide +kernel
theorem dc_M_divide_181 : decode bc_M_divide 181 = .ok (.getfield 99, 3) := by decide +kernel
theorem dc_M_divide_184 : decode bc_M_divide 184 = .ok (.iload 6, 2) := by decide +kernel
theorem dc_M_divide_186 : decode bc_M_divide 186 = .ok (.invokevirtual 105, 3) := by decide +kernel
theorem dc_M_divide_189 : decode bc_M_divide 189 = .ok (.aload_n 0, 1) := by decide +kernel
theorem dc_M_divide_190 : decode bc_M_divide 190 = .ok (.iload_n 2, 1) := by decide +kernel
theorem dc_M_divide_191 : decode bc_M_divide 191 = .ok (.aload_n 0, 1) := by decide +kernel
theorem dc_M_divide_192 : decode bc_M_divide 192 = .ok (.getfield 33, 3) := by decide +kernel
theorem dc_M_divide_195 : decode bc_M_divide 195 = .ok (.getfield 96, 3) := by decide +kernel
theorem dc_M_divide_198 : decode bc_M_divide 198 = .ok (.iload 7, 2) := by decide +kernel
theorem dc_M_divide_200 : decode bc_M_divide 200 = .ok (.invokevirtual 105, 3) := by decide +kernel
theorem dc_M_divide_203 : decode bc_M_divide 203 = .ok (.iconst 1, 1) := by decide +kernel
theorem dc_M_divide_204 : decode bc_M_divide 204 = .ok (.ireturn, 1) := by decide +kernel
theorem dc_M_logic_0 : decode bc_M_logic 0 = .ok (.iload_n 1, 1) := by decide +kernel
theorem dc_M_logic_1 : decode bc_M_logic 1 = .ok (.iload_n 2, 1) := by decide +kernel
theorem dc_M_logic_2 : decode bc_M_logic 2 = .ok (.invokestatic 70, 3) := by decide +kernel
theorem dc_M_logic_5 : decode bc_M_logic 5 = .ok (.ifCond .eq 21, 3) := by decide +kernel
theorem dc_M_logic_8 : decode bc_M_logic 8 = .ok (.iload_n 3, 1) := by decide +kernel
theorem dc_M_logic_9 : decode bc_M_logic 9 = .ok (.invokestatic 44, 3) := by decide +kernel
theorem dc_M_logic_12 : decode bc_M_logic 12 = .ok (.ifCond .eq 14, 3) := by decide +kernel
theorem dc_M_logic_15 : decode bc_M_logic 15 = .ok (.iload 4, 2) := by decide +kernel
theorem dc_M_logic_17 : decode bc_M_logic 17 = .ok (.ifCond .lt 9, 3) := by decide +kernel
theorem dc_M_logic_20 : decode bc_M_logic 20 = .ok (.iload 4, 2) := by decide +kernel
theorem dc_M_logic_22 : decode bc_M_logic 22 = .ok (.iconst 3, 1) := by decide +kernel
theorem dc_M_logic_23 : decode bc_M_logic 23 = .ok (.if_icmp .le 5, 3) := by decide +kernel
theorem dc_M_logic_26 : decode bc_M_logic 26 = .ok (.iconst 0, 1) := by decide +kernel
theorem dc_M_logic_27 : decode bc_M_logic 27 = .ok (.ireturn, 1) := by decide +kernel
theorem dc_M_logic_28 : decode bc_M_logic 28 = .ok (.aload_n 0, 1) := by decide +kernel
theorem dc_M_logic_29 : decode bc_M_logic 29 = .ok (.getfield 11, 3) := by decide +kernel
theorem dc_M_logic_32 : decode bc_M_logic 32 = .ok (.iload_n 2, 1) := by decide +kernel
theorem dc_M_logic_33 : decode bc_M_logic 33 = .ok (.aaload, 1) := by decide +kernel
theorem dc_M_logic_34 : decode bc_M_logic 34 = .ok (.getfield 109, 3) := by decide +kernel
theorem dc_M_logic_37 : decode bc_M_logic 37 = .ok (.aload_n 0, 1) := by decide +kernel
theorem dc_M_logic_38 : decode bc_M_logic 38 = .ok (.getfield 11, 3) := by decide +kernel
theorem dc_M_logic_41 : decode bc_M_logic 41 = .ok (.iload_n 3, 1) := by decide +kernel
theorem dc_M_logic_42 : decode bc_M_logic 42 = .ok (.aaload, 1) := by decide +kernel
theorem dc_M_logic_43 : decode bc_M_logic 43 = .ok (.getfield 109, 3) := by decide +kernel
theorem dc_M_logic_46 : decode bc_M_logic 46 = .ok (.invokestatic 113, 3) := by decide +kernel
theorem dc_M_logic_49 : decode bc_M_logic 49 = .ok (.iconst 1, 1) := by decide +kernel
theorem dc_M_logic_50 : decode bc_M_logic 50 = .ok (.iadd, 1) := by decide +kernel
theorem dc_M_logic_51 : decode bc_M_logic 51 = .ok (.istore 5, 2) := by decide +kernel
theorem dc_M_logic_53 : decode bc_M_logic 53 = .ok (.aload_n 0, 1) := by decide +kernel
theorem dc_M_logic_54 : decode bc_M_logic 54 = .ok (.getfield 11, 3) := by decide +kernel
theorem dc_M_logic_57 : decode bc_M_logic 57 = .ok (.iload_n 2, 1) := by decide +kernel
theorem dc_M_logic_58 : decode bc_M_logic 58 = .ok (.aaload, 1) := by decide +kernel
theorem dc_M_logic_59 : decode bc_M_logic 59 = .ok (.invokevirtual 119, 3) := by decide +kernel
theorem dc_M_logic_62 : decode bc_M_logic 62 = .ok (.istore 6, 2) := by decide +kernel
theorem dc_M_logic_64 : decode bc_M_logic 64 = .ok (.aload_n 0, 1) := by decide +kernel
theorem dc_M_logic_65 : decode bc_M_logic 65 = .ok (.getfield 11, 3) := by decide +kernel
theorem dc_M_logic_68 : decode bc_M_logic 68 = .ok (.iload_n 3, 1) := by decide +kernel
theorem dc_M_logic_69 : decode bc_M_logic 69 = .ok (.aaload, 1) := by decide +kernel
theorem dc_M_logic_70 : decode bc_M_logic 70 = .ok (.invokevirtual 119, 3) := by decide +kernel
theorem dc_M_logic_73 : decode bc_M_logic 73 = .ok (.istore 7, 2) := by decide +kernel
theorem dc_M_logic_75 : decode bc_M_logic 75 = .ok (.aload_n 0, 1) := by decide +kernel
theorem dc_M_logic_76 : decode bc_M_logic 76 = .ok (.getfield 20, 3) := by decide +kernel
theorem dc_M_logic_79 : decode bc_M_logic 79 = .ok (.iload 5, 2) := by decide +kernel
theorem dc_M_logic_81 : decode bc_M_logic 81 = .ok (.invokevirtual 123, 3) := by decide +kernel
theorem dc_M_logic_84 : decode bc_M_logic 84 = .ok (.iconst 0, 1) := by decide +kernel
theorem dc_M_logic_85 : decode bc_M_logic 85 = .ok (.istore 8, 2) := by decide +kernel
theorem dc_M_logic_87 : decode bc_M_logic 87 = .ok (.iload 8, 2) := by decide +kernel
theorem dc_M_logic_89 : decode bc_M_logic 89 = .ok (.iload 5, 2) := by decide +kernel
theorem dc_M_logic_91 : decode bc_M_logic 91 = .ok (.if_icmp .ge 42, 3) := by decide +kernel
theorem dc_M_logic_94 : decode bc_M_logic 94 = .ok (.aload_n 0, 1) := by decide +kernel
theorem dc_M_logic_95 : decode bc_M_logic 95 = .ok (.getfield 20, 3) := by decide +kernel
theorem dc_M_logic_98 : decode bc_M_logic 98 = .ok (.getfield 127, 3) := by decide +kernel
theorem dc_M_logic_101 : decode bc_M_logic 101 = .ok (.iload 8, 2) := by decide +kernel
theorem dc_M_logic_103 : decode bc_M_logic 103 = .ok (.aload_n 0, 1) := by decide +kernel
theorem dc_M_logic_104 : decode bc_M_logic 104 = .ok (.iload_n 2, 1) := by decide +kernel
theorem dc_M_logic_105 : decode bc_M_logic 105 = .ok (.iload 8, 2) := by decide +kernel
theorem dc_M_logic_107 : decode bc_M_logic 107 = .ok (.iload 6, 2) := by decide +kernel
theorem dc_M_logic_109 : decode bc_M_logic 109 = .ok (.invokevirtual 131, 3) := by decide +kernel
theorem dc_M_logic_112 : decode bc_M_logic 112 = .ok (.aload_n 0, 1) := by decide +kernel
theorem dc_M_logic_113 : decode bc_M_logic 113 = .ok (.iload_n 3, 1) := by decide +kernel
theorem dc_M_logic_114 : decode bc_M_logic 114 = .ok (.iload 8, 2) := by decide +kernel
theorem dc_M_logic_116 : decode bc_M_logic 116 = .ok (.iload 7, 2) := by decide +kernel
theorem dc_M_logic_118 : decode bc_M_logic 118 = .ok (.invokevirtual 131, 3) := by decide +kernel
theorem dc_M_logic_121 : decode bc_M_logic 121 = .ok (.iload 4, 2) := by decide +kernel
theorem dc_M_logic_123 : decode bc_M_logic 123 = .ok (.invokestatic 135, 3) := by decide +kernel
theorem dc_M_logic_126 : decode bc_M_logic 126 = .ok (.lastore, 1) := by decide +kernel
theorem dc_M_logic_127 : decode bc_M_logic 127 = .ok (.iinc 8 1, 3) := by decide +kernel
theorem dc_M_logic_130 : decode bc_M_logic 130 = .ok (.goto (-43), 3) := by decide +kernel
theorem dc_M_logic_133 : decode bc_M_logic 133 = .ok (.aload_n 0, 1) := by decide +kernel
theorem dc_M_logic_134 : decode bc_M_logic 134 = .ok (.getfield 20, 3) := by decide +kernel
theorem dc_M_logic_137 : decode bc_M_logic 137 = .ok (.getfield 127, 3) := by decide +kernel
theorem dc_M_logic_140 : decode bc_M_logic 140 = .ok (.iload 5, 2) := by decide +kernel
theorem dc_M_logic_142 : decode bc_M_logic 142 = .ok (.iconst 1, 1) := by decide +kernel
theorem dc_M_logic_143 : decode bc_M_logic 143 = .ok (.isub, 1) := by decide +kernel
theorem dc_M_logic_144 : decode bc_M_logic 144 = .ok (.laload, 1) := by decide +kernel
theorem dc_M_logic_145 : decode bc_M_logic 145 = .ok (.lconst 0, 1) := by decide +kernel
theorem dc_M_logic_146 : decode bc_M_logic 146 = .ok (.lcmp, 1) := by decide +kernel
theorem dc_M_logic_147 : decode bc_M_logic 147 = .ok (.ifCond .eq 7, 3) := by decide +kernel
theorem dc_M_logic_150 : decode bc_M_logic 150 = .ok (.iconst 1, 1) := by decide +kernel
theorem dc_M_logic_151 : decode bc_M_logic 151 = .ok (.goto 4, 3) := by decide +kernel
theorem dc_M_logic_154 : decode bc_M_logic 154 = .ok (.iconst 0, 1) := by decide +kernel
theorem dc_M_logic_155 : decode bc_M_logic 155 = .ok (.istore 8, 2) := by decide +kernel
theorem dc_M_logic_157 : decode bc_M_logic 157 = .ok (.iload 8, 2) := by decide +kernel
theorem dc_M_logic_159 : decode bc_M_logic 159 = .ok (.ifCond .eq 15, 3) := by decide +kernel
theorem dc_M_logic_162 : decode bc_M_logic 162 = .ok (.aload_n 0, 1) := by decide +kernel
theorem dc_M_logic_163 : decode bc_M_logic 163 = .ok (.getfield 20, 3) := by decide +kernel
theorem dc_M_logic_166 : decode bc_M_logic 166 = .ok (.iload 5, 2) := by decide +kernel
theorem dc_M_logic_168 : decode bc_M_logic 168 = .ok (.invokevirtual 139, 3) := by decide +kernel
theorem dc_M_logic_171 : decode bc_M_logic 171 = .ok (.goto 12, 3) := by decide +kernel
theorem dc_M_logic_174 : decode bc_M_logic 174 = .ok (.aload_n 0, 1) := by decide +kernel
theorem dc_M_logic_175 : decode bc_M_logic 175 = .ok (.getfield 20, 3) := by decide +kernel
theorem dc_M_logic_178 : decode bc_M_logic 178 = .ok (.iload 5, 2) := by decide +kernel
theorem dc_M_logic_180 : decode bc_M_logic 180 = .ok (.invokevirtual 142, 3) := by decide +kernel
theorem dc_M_logic_183 : decode bc_M_logic 183 = .ok (.aload_n 0, 1) := by decide +kernel
theorem dc_M_logic_184 : decode bc_M_logic 184 = .ok (.iload_n 1, 1) := by decide +kernel
theorem dc_M_logic_185 : decode bc_M_logic 185 = .ok (.iload 8, 2) := by decide +kernel
theorem dc_M_logic_187 : decode bc_M_logic 187 = .ok (.invokevirtual 52, 3) := by decide +kernel
theorem dc_M_logic_190 : decode bc_M_logic 190 = .ok (.ireturn, 1) := by decide +kernel
theorem dc_M_endlessDigit_0 : decode bc_M_endlessDigit 0 = .ok (.aload_n 0, 1) := by decide +kernel
theorem dc_M_endlessDigit_1 : decode bc_M_endlessDigit 1 = .ok (.getfield 11, 3) := by decide +kernel
theorem dc_M_endlessDigit_4 : decode bc_M_endlessDigit 4 = .ok (.iload_n 1, 1) := by decide +kernel
theorem dc_M_endlessDigit_5 : decode bc_M_endlessDigit 5 = .ok (.aaload, 1) := by decide +kernel
theorem dc_M_endlessDigit_6 : decode bc_M_endlessDigit 6 = .ok (.iload_n 2, 1) := by decide +kernel
theorem dc_M_endlessDigit_7 : decode bc_M_endlessDigit 7 = .ok (.invokevirtual 193, 3) := by decide +kernel
theorem dc_M_endlessDigit_10 : decode bc_M_endlessDigit 10 = .ok (.lstore 4, 2) := by decide +kernel
theorem dc_M_endlessDigit_12 : decode bc_M_endlessDigit 12 = .ok (.aload_n 0, 1) := by decide +kernel
theorem dc_M_endlessDigit_13 : decode bc_M_endlessDigit 13 = .ok (.getfield 15, 3) := by decide +kernel
theorem dc_M_endlessDigit_16 : decode bc_M_endlessDigit 16 = .ok (.iload_n 1, 1) := by decide +kernel
theorem dc_M_endlessDigit_17 : decode bc_M_endlessDigit 17 = .ok (.baload, 1) := by decide +kernel
theorem dc_M_endlessDigit_18 : decode bc_M_endlessDigit 18 = .ok (.ifCond .ne 6, 3) := by decide +kernel
theorem dc_M_endlessDigit_21 : decode bc_M_endlessDigit 21 = .ok (.lload 4, 2) := by decide +kernel
theorem dc_M_endlessDigit_23 : decode bc_M_endlessDigit 23 = .ok (.lreturn, 1) := by decide +kernel
theorem dc_M_endlessDigit_24 : decode bc_M_endlessDigit 24 = .ok (.iload_n 2, 1) := by decide +kernel
theorem dc_M_endlessDigit_25 : decode bc_M_endlessDigit 25 = .ok (.iload_n 3, 1) := by decide +kernel
theorem dc_M_endlessDigit_26 : decode bc_M_endlessDigit 26 = .ok (.if_icmp .gt 9, 3) := by decide +kernel
theorem dc_M_endlessDigit_29 : decode bc_M_endlessDigit 29 = .ok (.lload 4, 2) := by decide +kernel
theorem dc_M_endlessDigit_31 : decode bc_M_endlessDigit 31 = .ok (.lneg, 1) := by decide +kernel
theorem dc_M_endlessDigit_32 : decode bc_M_endlessDigit 32 = .ok (.goto 9, 3) := by decide +kernel
theorem dc_M_endlessDigit_35 : decode bc_M_endlessDigit 35 = .ok (.lload 4, 2) := by decide +kernel
theorem dc_M_endlessDigit_37 : decode bc_M_endlessDigit 37 = .ok (.ldc2_w 197, 3) := by decide +kernel
theorem dc_M_endlessDigit_40 : decode bc_M_endlessDigit 40 = .ok (.lxor, 1) := by decide +kernel
theorem dc_M_endlessDigit_41 : decode bc_M_endlessDigit 41 = .ok (.ldc2_w 199, 3) := by decide +kernel
theorem dc_M_endlessDigit_44 : decode bc_M_endlessDigit 44 = .ok (.land, 1) := by decide +kernel
theorem dc_M_endlessDigit_45 : decode bc_M_endlessDigit 45 = .ok (.lreturn, 1) := by decide +kernel
theorem dc_M_join_0 : decode bc_M_join 0 = .ok (.iload 4, 2) := by decide +kernel
theorem dc_M_join_2 : decode bc_M_join 2 = .ok (.tableswitch 38 0 2 #[26, 30, 34], 26) := by decide +kernel
theorem dc_M_join_28 : decode bc_M_join 28 = .ok (.lload_n 0, 1) := by decide +kernel
theorem dc_M_join_29 : decode bc_M_join 29 = .ok (.lload_n 2, 1) := by decide +kernel
theorem dc_M_join_30 : decode bc_M_join 30 = .ok (.land, 1) := by decide +kernel
theorem dc_M_join_31 : decode bc_M_join 31 = .ok (.lreturn, 1) := by decide +kernel
theorem dc_M_join_32 : decode bc_M_join 32 = .ok (.lload_n 0, 1) := by decide +kernel
theorem dc_M_join_33 : decode bc_M_join 33 = .ok (.lload_n 2, 1) := by decide +kernel
theorem dc_M_join_34 : decode bc_M_join 34 = .ok (.lor, 1) := by decide +kernel
theorem dc_M_join_35 : decode bc_M_join 35 = .ok (.lreturn, 1) := by decide +kernel
theorem dc_M_join_36 : decode bc_M_join 36 = .ok (.lload_n 0, 1) := by decide +kernel
theorem dc_M_join_37 : decode bc_M_join 37 = .ok (.lload_n 2, 1) := by decide +kernel
theorem dc_M_join_38 : decode bc_M_join 38 = .ok (.lxor, 1) := by decide +kernel
theorem dc_M_join_39 : decode bc_M_join 39 = .ok (.lreturn, 1) := by decide +kernel
theorem dc_M_join_40 : decode bc_M_join 40 = .ok (.lload_n 0, 1) := by decide +kernel
theorem dc_M_join_41 : decode bc_M_join 41 = .ok (.lload_n 2, 1) := by decide +kernel
theorem dc_M_join_42 : decode bc_M_join 42 = .ok (.ldc2_w 197, 3) := by decide +kernel
theorem dc_M_join_45 : decode bc_M_join 45 = .ok (.lxor, 1) := by decide +kernel
theorem dc_M_join_46 : decode bc_M_join 46 = .ok (.land, 1) := by decide +kernel
theorem dc_M_join_47 : decode bc_M_join 47 = .ok (.lreturn, 1) := by decide +kernel
theorem dc_M_shift_0 : decode bc_M_shift 0 = .ok (.iload_n 1, 1) := by decide +kernel
theorem dc_M_shift_1 : decode bc_M_shift 1 = .ok (.iload_n 2, 1) := by decide +kernel
theorem dc_M_shift_2 : decode bc_M_shift 2 = .ok (.invokestatic 70, 3) := by decide +kernel
theorem dc_M_shift_5 : decode bc_M_shift 5 = .ok (.ifCond .ne 5, 3) := by decide +kernel
theorem dc_M_shift_8 : decode bc_M_shift 8 = .ok (.iconst 0, 1) := by decide +kernel
theorem dc_M_shift_9 : decode bc_M_shift 9 = .ok (.ireturn, 1) := by decide +kernel
theorem dc_M_shift_10 : decode bc_M_shift 10 = .ok (.iload_n 3, 1) := by decide +kernel
theorem dc_M_shift_11 : decode bc_M_shift 11 = .ok (.ifCond .le 11, 3) := by decide +kernel
theorem dc_M_shift_14 : decode bc_M_shift 14 = .ok (.aload_n 0, 1) := by decide +kernel
theorem dc_M_shift_15 : decode bc_M_shift 15 = .ok (.iload_n 1, 1) := by decide +kernel
theorem dc_M_shift_16 : decode bc_M_shift 16 = .ok (.iload_n 2, 1) := by decide +kernel
theorem dc_M_shift_17 : decode bc_M_shift 17 = .ok (.iload_n 3, 1) := by decide +kernel
theorem dc_M_shift_18 : decode bc_M_shift 18 = .ok (.invokevirtual 145, 3) := by decide +kernel
theorem dc_M_shift_21 : decode bc_M_shift 21 = .ok (.ireturn, 1) := by decide +kernel
theorem dc_M_shift_22 : decode bc_M_shift 22 = .ok (.aload_n 0, 1) := by decide +kernel
theorem dc_M_shift_23 : decode bc_M_shift 23 = .ok (.iload_n 1, 1) := by decide +kernel
theorem dc_M_shift_24 : decode bc_M_shift 24 = .ok (.iload_n 2, 1) := by decide +kernel
theorem dc_M_shift_25 : decode bc_M_shift 25 = .ok (.iload_n 3, 1) := by decide +kernel
theorem dc_M_shift_26 : decode bc_M_shift 26 = .ok (.ldc 149, 2) := by decide +kernel
theorem dc_M_shift_28 : decode bc_M_shift 28 = .ok (.if_icmp .ge 8, 3) := by decide +kernel
theorem dc_M_shift_31 : decode bc_M_shift 31 = .ok (.ldc 150, 2) := by decide +kernel
theorem dc_M_shift_33 : decode bc_M_shift 33 = .ok (.goto 5, 3) := by decide +kernel
theorem dc_M_shift_36 : decode bc_M_shift 36 = .ok (.iload_n 3, 1) := by decide +kernel
theorem dc_M_shift_37 : decode bc_M_shift 37 = .ok (.ineg, 1) := by decide +kernel
theorem dc_M_shift_38 : decode bc_M_shift 38 = .ok (.invokevirtual 151, 3) := by decide +kernel
theorem dc_M_shift_41 : decode bc_M_shift 41 = .ok (.ireturn, 1) := by decide +kernel
theorem dc_M_shiftUp_0 : decode bc_M_shiftUp 0 = .ok (.aload_n 0, 1) := by decide +kernel
theorem dc_M_shiftUp_1 : decode bc_M_shiftUp 1 = .ok (.getfield 11, 3) := by decide +kernel
theorem dc_M_shiftUp_4 : decode bc_M_shiftUp 4 = .ok (.iload_n 2, 1) := by decide +kernel
theorem dc_M_shiftUp_5 : decode bc_M_shiftUp 5 = .ok (.aaload, 1) := by decide +kernel
theorem dc_M_shiftUp_6 : decode bc_M_shiftUp 6 = .ok (.invokevirtual 89, 3) := by decide +kernel
theorem dc_M_shiftUp_9 : decode bc_M_shiftUp 9 = .ok (.ifCond .eq 17, 3) := by decide +kernel
theorem dc_M_shiftUp_12 : decode bc_M_shiftUp 12 = .ok (.aload_n 0, 1) := by decide +kernel
theorem dc_M_shiftUp_13 : decode bc_M_shiftUp 13 = .ok (.getfield 20, 3) := by decide +kernel
theorem dc_M_shiftUp_16 : decode bc_M_shiftUp 16 = .ok (.invokevirtual 201, 3) := by decide +kernel
theorem dc_M_shiftUp_19 : decode bc_M_shiftUp 19 = .ok (.aload_n 0, 1) := by decide +kernel
theorem dc_M_shiftUp_20 : decode bc_M_shiftUp 20 = .ok (.iload_n 1, 1) := by decide +kernel
theorem dc_M_shiftUp_21 : decode bc_M_shiftUp 21 = .ok (.iconst 0, 1) := by decide +kernel
theorem dc_M_shiftUp_22 : decode bc_M_shiftUp 22 = .ok (.invokevirtual 52, 3) := by decide +kernel
theorem dc_M_shiftUp_25 : decode bc_M_shiftUp 25 = .ok (.ireturn, 1) := by decide +kernel
theorem dc_M_shiftUp_26 : decode bc_M_shiftUp 26 = .ok (.iload_n 3, 1) := by decide +kernel
theorem dc_M_shiftUp_27 : decode bc_M_shiftUp 27 = .ok (.ldc 150, 2) := by decide +kernel
theorem dc_M_shiftUp_29 : decode bc_M_shiftUp 29 = .ok (.aload_n 0, 1) := by decide +kernel
theorem dc_M_shiftUp_30 : decode bc_M_shiftUp 30 = .ok (.getfield 11, 3) := by decide +kernel
theorem dc_M_shiftUp_33 : decode bc_M_shiftUp 33 = .ok (.iload_n 2, 1) := by decide +kernel
theorem dc_M_shiftUp_34 : decode bc_M_shiftUp 34 = .ok (.aaload, 1) := by decide +kernel
theorem dc_M_shiftUp_35 : decode bc_M_shiftUp 35 = .ok (.invokevirtual 170, 3) := by decide +kernel
theorem dc_M_shiftUp_38 : decode bc_M_shiftUp 38 = .ok (.isub, 1) := by decide +kernel
theorem dc_M_shiftUp_39 : decode bc_M_shiftUp 39 = .ok (.if_icmp .le 5, 3) := by decide +kernel
theorem dc_M_shiftUp_42 : decode bc_M_shiftUp 42 = .ok (.iconst 0, 1) := by decide +kernel
theorem dc_M_shiftUp_43 : decode bc_M_shiftUp 43 = .ok (.ireturn, 1) := by decide +kernel
theorem dc_M_shiftUp_44 : decode bc_M_shiftUp 44 = .ok (.aload_n 0, 1) := by decide +kernel
theorem dc_M_shiftUp_45 : decode bc_M_shiftUp 45 = .ok (.getfield 20, 3) := by decide +kernel
theorem dc_M_shiftUp_48 : decode bc_M_shiftUp 48 = .ok (.aload_n 0, 1) := by decide +kernel
theorem dc_M_shiftUp_49 : decode bc_M_shiftUp 49 = .ok (.getfield 11, 3) := by decide +kernel
theorem dc_M_shiftUp_52 : decode bc_M_shiftUp 52 = .ok (.iload_n 2, 1) := by decide +kernel
theorem dc_M_shiftUp_53 : decode bc_M_shiftUp 53 = .ok (.aaload, 1) := by decide +kernel
theorem dc_M_shiftUp_54 : decode bc_M_shiftUp 54 = .ok (.iload_n 3, 1) := by decide +kernel
theorem dc_M_shiftUp_55 : decode bc_M_shiftUp 55 = .ok (.invokevirtual 58, 3) := by decide +kernel
theorem dc_M_shiftUp_58 : decode bc_M_shiftUp 58 = .ok (.aload_n 0, 1) := by decide +kernel
theorem dc_M_shiftUp_59 : decode bc_M_shiftUp 59 = .ok (.iload_n 1, 1) := by decide +kernel
theorem dc_M_shiftUp_60 : decode bc_M_shiftUp 60 = .ok (.aload_n 0, 1) := by decide +kernel
theorem dc_M_shiftUp_61 : decode bc_M_shiftUp 61 = .ok (.getfield 15, 3) := by decide +kernel
theorem dc_M_shiftUp_64 : decode bc_M_shiftUp 64 = .ok (.iload_n 2, 1) := by decide +kernel
theorem dc_M_shiftUp_65 : decode bc_M_shiftUp 65 = .ok (.baload, 1) := by decide +kernel
theorem dc_M_shiftUp_66 : decode bc_M_shiftUp 66 = .ok (.invokevirtual 52, 3) := by decide +kernel
theorem dc_M_shiftUp_69 : decode bc_M_shiftUp 69 = .ok (.ireturn, 1) := by decide +kernel
theorem dc_M_shiftDown_0 : decode bc_M_shiftDown 0 = .ok (.aload_n 0, 1) := by decide +kernel
theorem dc_M_shiftDown_1 : decode bc_M_shiftDown 1 = .ok (.getfield 11, 3) := by decide +kernel
theorem dc_M_shiftDown_4 : decode bc_M_shiftDown 4 = .ok (.iload_n 2, 1) := by decide +kernel
theorem dc_M_shiftDown_5 : decode bc_M_shiftDown 5 = .ok (.aaload, 1) := by decide +kernel
theorem dc_M_shiftDown_6 : decode bc_M_shiftDown 6 = .ok (.invokevirtual 89, 3) := by decide +kernel
theorem dc_M_shiftDown_9 : decode bc_M_shiftDown 9 = .ok (.ifCond .ne 20, 3) := by decide +kernel
theorem dc_M_shiftDown_12 : decode bc_M_shiftDown 12 = .ok (.aload_n 0, 1) := by decide +kernel
theorem dc_M_shiftDown_13 : decode bc_M_shiftDown 13 = .ok (.getfield 11, 3) := by decide +kernel
theorem dc_M_shiftDown_16 : decode bc_M_shiftDown 16 = .ok (.iload_n 2, 1) := by decide +kernel
theorem dc_M_shiftDown_17 : decode bc_M_shiftDown 17 = .ok (.aaload, 1) := by decide +kernel
theorem dc_M_shiftDown_18 : decode bc_M_shiftDown 18 = .ok (.invokevirtual 186, 3) := by decide +kernel
theorem dc_M_shiftDown_21 : decode bc_M_shiftDown 21 = .ok (.iload_n 3, 1) := by decide +kernel
theorem dc_M_shiftDown_22 : decode bc_M_shiftDown 22 = .ok (.if_icmp .ge 7, 3) := by decide +kernel
theorem dc_M_shiftDown_25 : decode bc_M_shiftDown 25 = .ok (.iconst 1, 1) := by decide +kernel
theorem dc_M_shiftDown_26 : decode bc_M_shiftDown 26 = .ok (.goto 4, 3) := by decide +kernel
theorem dc_M_shiftDown_29 : decode bc_M_shiftDown 29 = .ok (.iconst 0, 1) := by decide +kernel
theorem dc_M_shiftDown_30 : decode bc_M_shiftDown 30 = .ok (.istore 4, 2) := by decide +kernel
theorem dc_M_shiftDown_32 : decode bc_M_shiftDown 32 = .ok (.aload_n 0, 1) := by decide +kernel
theorem dc_M_shiftDown_33 : decode bc_M_shiftDown 33 = .ok (.getfield 20, 3) := by decide +kernel
theorem dc_M_shiftDown_36 : decode bc_M_shiftDown 36 = .ok (.aload_n 0, 1) := by decide +kernel
theorem dc_M_shiftDown_37 : decode bc_M_shiftDown 37 = .ok (.getfield 11, 3) := by decide +kernel
theorem dc_M_shiftDown_40 : decode bc_M_shiftDown 40 = .ok (.iload_n 2, 1) := by decide +kernel
theorem dc_M_shiftDown_41 : decode bc_M_shiftDown 41 = .ok (.aaload, 1) := by decide +kernel
theorem dc_M_shiftDown_42 : decode bc_M_shiftDown 42 = .ok (.iload_n 3, 1) := by decide +kernel
theorem dc_M_shiftDown_43 : decode bc_M_shiftDown 43 = .ok (.invokevirtual 204, 3) := by decide +kernel
theorem dc_M_shiftDown_46 : decode bc_M_shiftDown 46 = .ok (.iload 4, 2) := by decide +kernel
theorem dc_M_shiftDown_48 : decode bc_M_shiftDown 48 = .ok (.ifCond .eq 35, 3) := by decide +kernel
theorem dc_M_shiftDown_51 : decode bc_M_shiftDown 51 = .ok (.aload_n 0, 1) := by decide +kernel
theorem dc_M_shiftDown_52 : decode bc_M_shiftDown 52 = .ok (.getfield 15, 3) := by decide +kernel
theorem dc_M_shiftDown_55 : decode bc_M_shiftDown 55 = .ok (.iload_n 2, 1) := by decide +kernel
theorem dc_M_shiftDown_56 : decode bc_M_shiftDown 56 = .ok (.baload, 1) := by decide +kernel
theorem dc_M_shiftDown_57 : decode bc_M_shiftDown 57 = .ok (.ifCond .eq 26, 3) := by decide +kernel
theorem dc_M_shiftDown_60 : decode bc_M_shiftDown 60 = .ok (.aload_n 0, 1) := by decide +kernel
theorem dc_M_shiftDown_61 : decode bc_M_shiftDown 61 = .ok (.getfield 24, 3) := by decide +kernel
theorem dc_M_shiftDown_64 : decode bc_M_shiftDown 64 = .ok (.lconst 1, 1) := by decide +kernel
theorem dc_M_shiftDown_65 : decode bc_M_shiftDown 65 = .ok (.invokevirtual 48, 3) := by decide +kernel
theorem dc_M_shiftDown_68 : decode bc_M_shiftDown 68 = .ok (.aload_n 0, 1) := by decide +kernel
theorem dc_M_shiftDown_69 : decode bc_M_shiftDown 69 = .ok (.getfield 20, 3) := by decide +kernel
theorem dc_M_shiftDown_72 : decode bc_M_shiftDown 72 = .ok (.aload_n 0, 1) := by decide +kernel
theorem dc_M_shiftDown_73 : decode bc_M_shiftDown 73 = .ok (.getfield 20, 3) := by decide +kernel
theorem dc_M_shiftDown_76 : decode bc_M_shiftDown 76 = .ok (.aload_n 0, 1) := by decide +kernel
theorem dc_M_shiftDown_77 : decode bc_M_shiftDown 77 = .ok (.getfield 24, 3) := by decide +kernel
theorem dc_M_shiftDown_80 : decode bc_M_shiftDown 80 = .ok (.invokevirtual 62, 3) := by decide +kernel
theorem dc_M_shiftDown_83 : decode bc_M_shiftDown 83 = .ok (.aload_n 0, 1) := by decide +kernel
theorem dc_M_shiftDown_84 : decode bc_M_shiftDown 84 = .ok (.iload_n 1, 1) := by decide +kernel
theorem dc_M_shiftDown_85 : decode bc_M_shiftDown 85 = .ok (.aload_n 0, 1) := by decide +kernel
theorem dc_M_shiftDown_86 : decode bc_M_shiftDown 86 = .ok (.getfield 15, 3) := by decide +kernel
theorem dc_M_shiftDown_89 : decode bc_M_shiftDown 89 = .ok (.iload_n 2, 1) := by decide +kernel
theorem dc_M_shiftDown_90 : decode bc_M_shiftDown 90 = .ok (.baload, 1) := by decide +kernel
theorem dc_M_shiftDown_91 : decode bc_M_shiftDown 91 = .ok (.invokevirtual 52, 3) := by decide +kernel
theorem dc_M_shiftDown_94 : decode bc_M_shiftDown 94 = .ok (.ireturn, 1) := by decide +kernel
theorem dc_M_change_0 : decode bc_M_change 0 = .ok (.iload_n 1, 1) := by decide +kernel
theorem dc_M_change_1 : decode bc_M_change 1 = .ok (.iload_n 2, 1) := by decide +kernel
theorem dc_M_change_2 : decode bc_M_change 2 = .ok (.invokestatic 70, 3) := by decide +kernel
theorem dc_M_change_5 : decode bc_M_change 5 = .ok (.ifCond .eq 18, 3) := by decide +kernel
theorem dc_M_change_8 : decode bc_M_change 8 = .ok (.iload_n 3, 1) := by decide +kernel
theorem dc_M_change_9 : decode bc_M_change 9 = .ok (.ifCond .lt 14, 3) := by decide +kernel
theorem dc_M_change_12 : decode bc_M_change 12 = .ok (.iload 4, 2) := by decide +kernel
theorem dc_M_change_14 : decode bc_M_change 14 = .ok (.ifCond .lt 9, 3) := by decide +kernel
theorem dc_M_change_17 : decode bc_M_change 17 = .ok (.iload 4, 2) := by decide +kernel
theorem dc_M_change_19 : decode bc_M_change 19 = .ok (.iconst 2, 1) := by decide +kernel
theorem dc_M_change_20 : decode bc_M_change 20 = .ok (.if_icmp .le 5, 3) := by decide +kernel
theorem dc_M_change_23 : decode bc_M_change 23 = .ok (.iconst 0, 1) := by decide +kernel
theorem dc_M_change_24 : decode bc_M_change 24 = .ok (.ireturn, 1) := by decide +kernel
theorem dc_M_change_25 : decode bc_M_change 25 = .ok (.aload_n 0, 1) := by decide +kernel
theorem dc_M_change_26 : decode bc_M_change 26 = .ok (.iload_n 2, 1) := by decide +kernel
theorem dc_M_change_27 : decode bc_M_change 27 = .ok (.iload_n 3, 1) := by decide +kernel
theorem dc_M_change_28 : decode bc_M_change 28 = .ok (.bipush 32, 2) := by decide +kernel
theorem dc_M_change_30 : decode bc_M_change 30 = .ok (.idiv, 1) := by decide +kernel
theorem dc_M_change_31 : decode bc_M_change 31 = .ok (.aload_n 0, 1) := by decide +kernel
theorem dc_M_change_32 : decode bc_M_change 32 = .ok (.getfield 11, 3) := by decide +kernel
theorem dc_M_change_35 : decode bc_M_change 35 = .ok (.iload_n 2, 1) := by decide +kernel
theorem dc_M_change_36 : decode bc_M_change 36 = .ok (.aaload, 1) := by decide +kernel
theorem dc_M_change_37 : decode bc_M_change 37 = .ok (.invokevirtual 119, 3) := by decide +kernel
theorem dc_M_change_40 : decode bc_M_change 40 = .ok (.invokevirtual 131, 3) := by decide +kernel
theorem dc_M_change_43 : decode bc_M_change 43 = .ok (.lstore 5, 2) := by decide +kernel
theorem dc_M_change_45 : decode bc_M_change 45 = .ok (.lload 5, 2) := by decide +kernel
theorem dc_M_change_47 : decode bc_M_change 47 = .ok (.iload_n 3, 1) := by decide +kernel
theorem dc_M_change_48 : decode bc_M_change 48 = .ok (.bipush 31, 2) := by decide +kernel
theorem dc_M_change_50 : decode bc_M_change 50 = .ok (.iand, 1) := by decide +kernel
theorem dc_M_change_51 : decode bc_M_change 51 = .ok (.lushr, 1) := by decide +kernel
theorem dc_M_change_52 : decode bc_M_change 52 = .ok (.lconst 1, 1) := by decide +kernel
theorem dc_M_change_53 : decode bc_M_change 53 = .ok (.land, 1) := by decide +kernel
theorem dc_M_change_54 : decode bc_M_change 54 = .ok (.lconst 0, 1) := by decide +kernel
theorem dc_M_change_55 : decode bc_M_change 55 = .ok (.lcmp, 1) := by decide +kernel
theorem dc_M_change_56 : decode bc_M_change 56 = .ok (.ifCond .eq 7, 3) := by decide +kernel
theorem dc_M_change_59 : decode bc_M_change 59 = .ok (.iconst 1, 1) := by decide +kernel
theorem dc_M_change_60 : decode bc_M_change 60 = .ok (.goto 4, 3) := by decide +kernel
theorem dc_M_change_63 : decode bc_M_change 63 = .ok (.iconst 0, 1) := by decide +kernel
theorem dc_M_change_64 : decode bc_M_change 64 = .ok (.istore 7, 2) := by decide +kernel
theorem dc_M_change_66 : decode bc_M_change 66 = .ok (.iload 4, 2) := by decide +kernel
theorem dc_M_change_68 : decode bc_M_change 68 = .ok (.iload 7, 2) := by decide +kernel
theorem dc_M_change_70 : decode bc_M_change 70 = .ok (.ifCond .eq 7, 3) := by decide +kernel
theorem dc_M_change_73 : decode bc_M_change 73 = .ok (.iconst 1, 1) := by decide +kernel
theorem dc_M_change_74 : decode bc_M_change 74 = .ok (.goto 4, 3) := by decide +kernel
theorem dc_M_change_77 : decode bc_M_change 77 = .ok (.iconst 0, 1) := by decide +kernel
theorem dc_M_change_78 : decode bc_M_change 78 = .ok (.if_icmp .ne 28, 3) := by decide +kernel
theorem dc_M_change_81 : decode bc_M_change 81 = .ok (.aload_n 0, 1) := by decide +kernel
theorem dc_M_change_82 : decode bc_M_change 82 = .ok (.getfield 20, 3) := by decide +kernel
theorem dc_M_change_85 : decode bc_M_change 85 = .ok (.aload_n 0, 1) := by decide +kernel
theorem dc_M_change_86 : decode bc_M_change 86 = .ok (.getfield 11, 3) := by decide +kernel
theorem dc_M_change_89 : decode bc_M_change 89 = .ok (.iload_n 2, 1) := by decide +kernel
theorem dc_M_change_90 : decode bc_M_change 90 = .ok (.aaload, 1) := by decide +kernel
theorem dc_M_change_91 : decode bc_M_change 91 = .ok (.invokevirtual 74, 3) := by decide +kernel
theorem dc_M_change_94 : decode bc_M_change 94 = .ok (.aload_n 0, 1) := by decide +kernel
theorem dc_M_change_95 : decode bc_M_change 95 = .ok (.iload_n 1, 1) := by decide +kernel
theorem dc_M_change_96 : decode bc_M_change 96 = .ok (.aload_n 0, 1) := by decide +kernel
theorem dc_M_change_97 : decode bc_M_change 97 = .ok (.getfield 15, 3) := by decide +kernel
theorem dc_M_change_100 : decode bc_M_change 100 = .ok (.iload_n 2, 1) := by decide +kernel
theorem dc_M_change_101 : decode bc_M_change 101 = .ok (.baload, 1) := by decide +kernel
theorem dc_M_change_102 : decode bc_M_change 102 = .ok (.invokevirtual 52, 3) := by decide +kernel
theorem dc_M_change_105 : decode bc_M_change 105 = .ok (.ireturn, 1) := by decide +kernel
theorem dc_M_change_106 : decode bc_M_change 106 = .ok (.iload_n 3, 1) := by decide +kernel
theorem dc_M_change_107 : decode bc_M_change 107 = .ok (.ldc 150, 2) := by decide +kernel
theorem dc_M_change_109 : decode bc_M_change 109 = .ok (.if_icmp .lt 5, 3) := by decide +kernel
theorem dc_M_change_112 : decode bc_M_change 112 = .ok (.iconst 0, 1) := by decide +kernel
theorem dc_M_change_113 : decode bc_M_change 113 = .ok (.ireturn, 1) := by decide +kernel
theorem dc_M_change_114 : decode bc_M_change 114 = .ok (.aload_n 0, 1) := by decide +kernel
theorem dc_M_change_115 : decode bc_M_change 115 = .ok (.getfield 24, 3) := by decide +kernel
theorem dc_M_change_118 : decode bc_M_change 118 = .ok (.lconst 1, 1) := by decide +kernel
theorem dc_M_change_119 : decode bc_M_change 119 = .ok (.invokevirtual 48, 3) := by decide +kernel
theorem dc_M_change_122 : decode bc_M_change 122 = .ok (.aload_n 0, 1) := by decide +kernel
theorem dc_M_change_123 : decode bc_M_change 123 = .ok (.getfield 24, 3) := by decide +kernel
theorem dc_M_change_126 : decode bc_M_change 126 = .ok (.aload_n 0, 1) := by decide +kernel
theorem dc_M_change_127 : decode bc_M_change 127 = .ok (.getfield 24, 3) := by decide +kernel
theorem dc_M_change_130 : decode bc_M_change 130 = .ok (.iload_n 3, 1) := by decide +kernel
theorem dc_M_change_131 : decode bc_M_change 131 = .ok (.invokevirtual 58, 3) := by decide +kernel
theorem dc_M_change_134 : decode bc_M_change 134 = .ok (.aload_n 0, 1) := by decide +kernel
theorem dc_M_change_135 : decode bc_M_change 135 = .ok (.iload_n 1, 1) := by decide +kernel
theorem dc_M_change_136 : decode bc_M_change 136 = .ok (.iload_n 2, 1) := by decide +kernel
theorem dc_M_change_137 : decode bc_M_change 137 = .ok (.aload_n 0, 1) := by decide +kernel
theorem dc_M_change_138 : decode bc_M_change 138 = .ok (.getfield 24, 3) := by decide +kernel
theorem dc_M_change_141 : decode bc_M_change 141 = .ok (.iload 7, 2) := by decide +kernel
theorem dc_M_change_143 : decode bc_M_change 143 = .ok (.invokevirtual 78, 3) := by decide +kernel
theorem dc_M_change_146 : decode bc_M_change 146 = .ok (.ireturn, 1) := by decide +kernel
theorem dc_M_power_0 : decode bc_M_power 0 = .ok (.iload_n 1, 1) := by decide +kernel
theorem dc_M_power_1 : decode bc_M_power 1 = .ok (.iload_n 2, 1) := by decide +kernel
theorem dc_M_power_2 : decode bc_M_power 2 = .ok (.invokestatic 70, 3) := by decide +kernel
theorem dc_M_power_5 : decode bc_M_power 5 = .ok (.ifCond .eq 7, 3) := by decide +kernel
theorem dc_M_power_8 : decode bc_M_power 8 = .ok (.iload_n 3, 1) := by decide +kernel
theorem dc_M_power_9 : decode bc_M_power 9 = .ok (.ifCond .ge 5, 3) := by decide +kernel
theorem dc_M_power_12 : decode bc_M_power 12 = .ok (.iconst 0, 1) := by decide +kernel
theorem dc_M_power_13 : decode bc_M_power 13 = .ok (.ireturn, 1) := by decide +kernel
theorem dc_M_power_14 : decode bc_M_power 14 = .ok (.aload_n 0, 1) := by decide +kernel
theorem dc_M_power_15 : decode bc_M_power 15 = .ok (.aload_n 0, 1) := by decide +kernel
theorem dc_M_power_16 : decode bc_M_power 16 = .ok (.getfield 11, 3) := by decide +kernel
theorem dc_M_power_19 : decode bc_M_power 19 = .ok (.iload_n 2, 1) := by decide +kernel
theorem dc_M_power_20 : decode bc_M_power 20 = .ok (.aaload, 1) := by decide +kernel
theorem dc_M_power_21 : decode bc_M_power 21 = .ok (.iload_n 3, 1) := by decide +kernel
theorem dc_M_power_22 : decode bc_M_power 22 = .ok (.invokevirtual 154, 3) := by decide +kernel
theorem dc_M_power_25 : decode bc_M_power 25 = .ok (.ifCond .eq 35, 3) := by decide +kernel
theorem dc_M_power_28 : decode bc_M_power 28 = .ok (.aload_n 0, 1) := by decide +kernel
theorem dc_M_power_29 : decode bc_M_power 29 = .ok (.iload_n 1, 1) := by decide +kernel
theorem dc_M_power_30 : decode bc_M_power 30 = .ok (.aload_n 0, 1) := by decide +kernel
theorem dc_M_power_31 : decode bc_M_power 31 = .ok (.getfield 15, 3) := by decide +kernel
theorem dc_M_power_34 : decode bc_M_power 34 = .ok (.iload_n 2, 1) := by decide +kernel
theorem dc_M_power_35 : decode bc_M_power 35 = .ok (.baload, 1) := by decide +kernel
theorem dc_M_power_36 : decode bc_M_power 36 = .ok (.ifCond .eq 13, 3) := by decide +kernel
theorem dc_M_power_39 : decode bc_M_power 39 = .ok (.iload_n 3, 1) := by decide +kernel
theorem dc_M_power_40 : decode bc_M_power 40 = .ok (.iconst 1, 1) := by decide +kernel
theorem dc_M_power_41 : decode bc_M_power 41 = .ok (.iand, 1) := by decide +kernel
theorem dc_M_power_42 : decode bc_M_power 42 = .ok (.ifCond .eq 7, 3) := by decide +kernel
theorem dc_M_power_45 : decode bc_M_power 45 = .ok (.iconst 1, 1) := by decide +kernel
theorem dc_M_power_46 : decode bc_M_power 46 = .ok (.goto 4, 3) := by decide +kernel
theorem dc_M_power_49 : decode bc_M_power 49 = .ok (.iconst 0, 1) := by decide +kernel
theorem dc_M_power_50 : decode bc_M_power 50 = .ok (.invokevirtual 52, 3) := by decide +kernel
theorem dc_M_power_53 : decode bc_M_power 53 = .ok (.ifCond .eq 7, 3) := by decide +kernel
theorem dc_M_power_56 : decode bc_M_power 56 = .ok (.iconst 1, 1) := by decide +kernel
theorem dc_M_power_57 : decode bc_M_power 57 = .ok (.goto 4, 3) := by decide +kernel
theorem dc_M_power_60 : decode bc_M_power 60 = .ok (.iconst 0, 1) := by decide +kernel
theorem dc_M_power_61 : decode bc_M_power 61 = .ok (.ireturn, 1) := by decide +kernel
theorem dc_M_findPower_0 : decode bc_M_findPower 0 = .ok (.aload_n 0, 1) := by decide +kernel
theorem dc_M_findPower_1 : decode bc_M_findPower 1 = .ok (.getfield 20, 3) := by decide +kernel
theorem dc_M_findPower_4 : decode bc_M_findPower 4 = .ok (.lconst 1, 1) := by decide +kernel
theorem dc_M_findPower_5 : decode bc_M_findPower 5 = .ok (.invokevirtual 48, 3) := by decide +kernel
theorem dc_M_findPower_8 : decode bc_M_findPower 8 = .ok (.aload_n 1, 1) := by decide +kernel
theorem dc_M_findPower_9 : decode bc_M_findPower 9 = .ok (.invokevirtual 170, 3) := by decide +kernel
theorem dc_M_findPower_12 : decode bc_M_findPower 12 = .ok (.iconst 1, 1) := by decide +kernel
theorem dc_M_findPower_13 : decode bc_M_findPower 13 = .ok (.if_icmp .gt 17, 3) := by decide +kernel
theorem dc_M_findPower_16 : decode bc_M_findPower 16 = .ok (.iload_n 2, 1) := by decide +kernel
theorem dc_M_findPower_17 : decode bc_M_findPower 17 = .ok (.ifCond .le 11, 3) := by decide +kernel
theorem dc_M_findPower_20 : decode bc_M_findPower 20 = .ok (.aload_n 0, 1) := by decide +kernel
theorem dc_M_findPower_21 : decode bc_M_findPower 21 = .ok (.getfield 20, 3) := by decide +kernel
theorem dc_M_findPower_24 : decode bc_M_findPower 24 = .ok (.aload_n 1, 1) := by decide +kernel
theorem dc_M_findPower_25 : decode bc_M_findPower 25 = .ok (.invokevirtual 74, 3) := by decide +kernel
theorem dc_M_findPower_28 : decode bc_M_findPower 28 = .ok (.iconst 1, 1) := by decide +kernel
theorem dc_M_findPower_29 : decode bc_M_findPower 29 = .ok (.ireturn, 1) := by decide +kernel
theorem dc_M_findPower_30 : decode bc_M_findPower 30 = .ok (.aload_n 1, 1) := by decide +kernel
theorem dc_M_findPower_31 : decode bc_M_findPower 31 = .ok (.invokevirtual 170, 3) := by decide +kernel
theorem dc_M_findPower_34 : decode bc_M_findPower 34 = .ok (.i2l, 1) := by decide +kernel
theorem dc_M_findPower_35 : decode bc_M_findPower 35 = .ok (.lconst 1, 1) := by decide +kernel
theorem dc_M_findPower_36 : decode bc_M_findPower 36 = .ok (.lsub, 1) := by decide +kernel
theorem dc_M_findPower_37 : decode bc_M_findPower 37 = .ok (.iload_n 2, 1) := by decide +kernel
theorem dc_M_findPower_38 : decode bc_M_findPower 38 = .ok (.i2l, 1) := by decide +kernel
theorem dc_M_findPower_39 : decode bc_M_findPower 39 = .ok (.lmul, 1) := by decide +kernel
theorem dc_M_findPower_40 : decode bc_M_findPower 40 = .ok (.ldc2_w 207, 3) := by decide +kernel
theorem dc_M_findPower_43 : decode bc_M_findPower 43 = .ok (.lcmp, 1) := by decide +kernel
theorem dc_M_findPower_44 : decode bc_M_findPower 44 = .ok (.ifCond .lt 5, 3) := by decide +kernel
theorem dc_M_findPower_47 : decode bc_M_findPower 47 = .ok (.iconst 0, 1) := by decide +kernel
theorem dc_M_findPower_48 : decode bc_M_findPower 48 = .ok (.ireturn, 1) := by decide +kernel
theorem dc_M_findPower_49 : decode bc_M_findPower 49 = .ok (.bipush 31, 2) := by decide +kernel
theorem dc_M_findPower_51 : decode bc_M_findPower 51 = .ok (.iload_n 2, 1) := by decide +kernel
theorem dc_M_findPower_52 : decode bc_M_findPower 52 = .ok (.invokestatic 211, 3) := by decide +kernel
theorem dc_M_findPower_55 : decode bc_M_findPower 55 = .ok (.isub, 1) := by decide +kernel
theorem dc_M_findPower_56 : decode bc_M_findPower 56 = .ok (.istore_n 3, 1) := by decide +kernel
theorem dc_M_findPower_57 : decode bc_M_findPower 57 = .ok (.iload_n 3, 1) := by decide +kernel
theorem dc_M_findPower_58 : decode bc_M_findPower 58 = .ok (.ifCond .lt 40, 3) := by decide +kernel
theorem dc_M_findPower_61 : decode bc_M_findPower 61 = .ok (.aload_n 0, 1) := by decide +kernel
theorem dc_M_findPower_62 : decode bc_M_findPower 62 = .ok (.aload_n 0, 1) := by decide +kernel
theorem dc_M_findPower_63 : decode bc_M_findPower 63 = .ok (.getfield 20, 3) := by decide +kernel
theorem dc_M_findPower_66 : decode bc_M_findPower 66 = .ok (.invokevirtual 215, 3) := by decide +kernel
theorem dc_M_findPower_69 : decode bc_M_findPower 69 = .ok (.ifCond .ne 5, 3) := by decide +kernel
theorem dc_M_findPower_72 : decode bc_M_findPower 72 = .ok (.iconst 0, 1) := by decide +kernel
theorem dc_M_findPower_73 : decode bc_M_findPower 73 = .ok (.ireturn, 1) := by decide +kernel
theorem dc_M_findPower_74 : decode bc_M_findPower 74 = .ok (.iload_n 2, 1) := by decide +kernel
theorem dc_M_findPower_75 : decode bc_M_findPower 75 = .ok (.iload_n 3, 1) := by decide +kernel
theorem dc_M_findPower_76 : decode bc_M_findPower 76 = .ok (.iushr, 1) := by decide +kernel
theorem dc_M_findPower_77 : decode bc_M_findPower 77 = .ok (.iconst 1, 1) := by decide +kernel
theorem dc_M_findPower_78 : decode bc_M_findPower 78 = .ok (.iand, 1) := by decide +kernel
theorem dc_M_findPower_79 : decode bc_M_findPower 79 = .ok (.ifCond .eq 13, 3) := by decide +kernel
theorem dc_M_findPower_82 : decode bc_M_findPower 82 = .ok (.aload_n 0, 1) := by decide +kernel
theorem dc_M_findPower_83 : decode bc_M_findPower 83 = .ok (.aload_n 1, 1) := by decide +kernel
theorem dc_M_findPower_84 : decode bc_M_findPower 84 = .ok (.invokevirtual 215, 3) := by decide +kernel
theorem dc_M_findPower_87 : decode bc_M_findPower 87 = .ok (.ifCond .ne 5, 3) := by decide +kernel
theorem dc_M_findPower_90 : decode bc_M_findPower 90 = .ok (.iconst 0, 1) := by decide +kernel
theorem dc_M_findPower_91 : decode bc_M_findPower 91 = .ok (.ireturn, 1) := by decide +kernel
theorem dc_M_findPower_92 : decode bc_M_findPower 92 = .ok (.iinc 3 (-1), 3) := by decide +kernel
theorem dc_M_findPower_95 : decode bc_M_findPower 95 = .ok (.goto (-38), 3) := by decide +kernel
theorem dc_M_findPower_98 : decode bc_M_findPower 98 = .ok (.iconst 1, 1) := by decide +kernel
theorem dc_M_findPower_99 : decode bc_M_findPower 99 = .ok (.ireturn, 1) := by decide +kernel
theorem dc_M_multiplyResult_0 : decode bc_M_multiplyResult 0 = .ok (.aload_n 0, 1) := by decide +kernel
theorem dc_M_multiplyResult_1 : decode bc_M_multiplyResult 1 = .ok (.getfield 20, 3) := by decide +kernel
theorem dc_M_multiplyResult_4 : decode bc_M_multiplyResult 4 = .ok (.aload_n 1, 1) := by decide +kernel
theorem dc_M_multiplyResult_5 : decode bc_M_multiplyResult 5 = .ok (.invokestatic 82, 3) := by decide +kernel
theorem dc_M_multiplyResult_8 : decode bc_M_multiplyResult 8 = .ok (.ifCond .eq 5, 3) := by decide +kernel
theorem dc_M_multiplyResult_11 : decode bc_M_multiplyResult 11 = .ok (.iconst 0, 1) := by decide +kernel
theorem dc_M_multiplyResult_12 : decode bc_M_multiplyResult 12 = .ok (.ireturn, 1) := by decide +kernel
theorem dc_M_multiplyResult_13 : decode bc_M_multiplyResult 13 = .ok (.aload_n 0, 1) := by decide +kernel
theorem dc_M_multiplyResult_14 : decode bc_M_multiplyResult 14 = .ok (.getfield 24, 3) := by decide +kernel
theorem dc_M_multiplyResult_17 : decode bc_M_multiplyResult 17 = .ok (.aload_n 0, 1) := by decide +kernel
theorem dc_M_multiplyResult_18 : decode bc_M_multiplyResult 18 = .ok (.getfield 20, 3) := by decide +kernel
theorem dc_M_multiplyResult_21 : decode bc_M_multiplyResult 21 = .ok (.aload_n 1, 1) := by decide +kernel
theorem dc_M_multiplyResult_22 : decode bc_M_multiplyResult 22 = .ok (.invokevirtual 86, 3) := by decide +kernel
theorem dc_M_multiplyResult_25 : decode bc_M_multiplyResult 25 = .ok (.aload_n 0, 1) := by decide +kernel
theorem dc_M_multiplyResult_26 : decode bc_M_multiplyResult 26 = .ok (.getfield 20, 3) := by decide +kernel
theorem dc_M_multiplyResult_29 : decode bc_M_multiplyResult 29 = .ok (.aload_n 0, 1) := by decide +kernel
theorem dc_M_multiplyResult_30 : decode bc_M_multiplyResult 30 = .ok (.getfield 24, 3) := by decide +kernel
theorem dc_M_multiplyResult_33 : decode bc_M_multiplyResult 33 = .ok (.invokevirtual 74, 3) := by decide +kernel
theorem dc_M_multiplyResult_36 : decode bc_M_multiplyResult 36 = .ok (.iconst 1, 1) := by decide +kernel
theorem dc_M_multiplyResult_37 : decode bc_M_multiplyResult 37 = .ok (.ireturn, 1) := by decide +kernel
theorem dc_M_common_0 : decode bc_M_common 0 = .ok (.iload_n 1, 1) := by decide +kernel
theorem dc_M_common_1 : decode bc_M_common 1 = .ok (.iload_n 2, 1) := by decide +kernel
theorem dc_M_common_2 : decode bc_M_common 2 = .ok (.invokestatic 70, 3) := by decide +kernel
theorem dc_M_common_5 : decode bc_M_common 5 = .ok (.ifCond .eq 10, 3) := by decide +kernel
theorem dc_M_common_8 : decode bc_M_common 8 = .ok (.iload_n 3, 1) := by decide +kernel
theorem dc_M_common_9 : decode bc_M_common 9 = .ok (.invokestatic 44, 3) := by decide +kernel
theorem dc_M_common_12 : decode bc_M_common 12 = .ok (.ifCond .ne 5, 3) := by decide +kernel
theorem dc_M_common_15 : decode bc_M_common 15 = .ok (.iconst 0, 1) := by decide +kernel
theorem dc_M_common_16 : decode bc_M_common 16 = .ok (.ireturn, 1) := by decide +kernel
theorem dc_M_common_17 : decode bc_M_common 17 = .ok (.aload_n 0, 1) := by decide +kernel
theorem dc_M_common_18 : decode bc_M_common 18 = .ok (.getfield 40, 3) := by decide +kernel
theorem dc_M_common_21 : decode bc_M_common 21 = .ok (.aload_n 0, 1) := by decide +kernel
theorem dc_M_common_22 : decode bc_M_common 22 = .ok (.getfield 11, 3) := by decide +kernel
theorem dc_M_common_25 : decode bc_M_common 25 = .ok (.iload_n 2, 1) := by decide +kernel
theorem dc_M_common_26 : decode bc_M_common 26 = .ok (.aaload, 1) := by decide +kernel
theorem dc_M_common_27 : decode bc_M_common 27 = .ok (.aload_n 0, 1) := by decide +kernel
theorem dc_M_common_28 : decode bc_M_common 28 = .ok (.getfield 11, 3) := by decide +kernel
theorem dc_M_common_31 : decode bc_M_common 31 = .ok (.iload_n 3, 1) := by decide +kernel
theorem dc_M_common_32 : decode bc_M_common 32 = .ok (.aaload, 1) := by decide +kernel
theorem dc_M_common_33 : decode bc_M_common 33 = .ok (.iconst 0, 1) := by decide +kernel
theorem dc_M_common_34 : decode bc_M_common 34 = .ok (.invokevirtual 158, 3) := by decide +kernel
theorem dc_M_common_37 : decode bc_M_common 37 = .ok (.aload_n 0, 1) := by decide +kernel
theorem dc_M_common_38 : decode bc_M_common 38 = .ok (.getfield 20, 3) := by decide +kernel
theorem dc_M_common_41 : decode bc_M_common 41 = .ok (.aload_n 0, 1) := by decide +kernel
theorem dc_M_common_42 : decode bc_M_common 42 = .ok (.getfield 40, 3) := by decide +kernel
theorem dc_M_common_45 : decode bc_M_common 45 = .ok (.getfield 161, 3) := by decide +kernel
theorem dc_M_common_48 : decode bc_M_common 48 = .ok (.invokevirtual 74, 3) := by decide +kernel
theorem dc_M_common_51 : decode bc_M_common 51 = .ok (.aload_n 0, 1) := by decide +kernel
theorem dc_M_common_52 : decode bc_M_common 52 = .ok (.iload_n 1, 1) := by decide +kernel
theorem dc_M_common_53 : decode bc_M_common 53 = .ok (.iconst 0, 1) := by decide +kernel
theorem dc_M_common_54 : decode bc_M_common 54 = .ok (.invokevirtual 52, 3) := by decide +kernel
theorem dc_M_common_57 : decode bc_M_common 57 = .ok (.ireturn, 1) := by decide +kernel
theorem dc_M_inverse_0 : decode bc_M_inverse 0 = .ok (.iload_n 1, 1) := by decide +kernel
theorem dc_M_inverse_1 : decode bc_M_inverse 1 = .ok (.iload_n 2, 1) := by decide +kernel
theorem dc_M_inverse_2 : decode bc_M_inverse 2 = .ok (.invokestatic 70, 3) := by decide +kernel
theorem dc_M_inverse_5 : decode bc_M_inverse 5 = .ok (.ifCond .eq 11, 3) := by decide +kernel
theorem dc_M_inverse_8 : decode bc_M_inverse 8 = .ok (.aload_n 0, 1) := by decide +kernel
theorem dc_M_inverse_9 : decode bc_M_inverse 9 = .ok (.iload_n 3, 1) := by decide +kernel
theorem dc_M_inverse_10 : decode bc_M_inverse 10 = .ok (.invokevirtual 164, 3) := by decide +kernel
theorem dc_M_inverse_13 : decode bc_M_inverse 13 = .ok (.ifCond .ne 5, 3) := by decide +kernel
theorem dc_M_inverse_16 : decode bc_M_inverse 16 = .ok (.iconst 0, 1) := by decide +kernel
theorem dc_M_inverse_17 : decode bc_M_inverse 17 = .ok (.ireturn, 1) := by decide +kernel
theorem dc_M_inverse_18 : decode bc_M_inverse 18 = .ok (.aload_n 0, 1) := by decide +kernel
theorem dc_M_inverse_19 : decode bc_M_inverse 19 = .ok (.iload_n 2, 1) := by decide +kernel
theorem dc_M_inverse_20 : decode bc_M_inverse 20 = .ok (.iload_n 3, 1) := by decide +kernel
theorem dc_M_inverse_21 : decode bc_M_inverse 21 = .ok (.invokevirtual 167, 3) := by decide +kernel
theorem dc_M_inverse_24 : decode bc_M_inverse 24 = .ok (.ifCond .eq 16, 3) := by decide +kernel
theorem dc_M_inverse_27 : decode bc_M_inverse 27 = .ok (.aload_n 0, 1) := by decide +kernel
theorem dc_M_inverse_28 : decode bc_M_inverse 28 = .ok (.iload_n 1, 1) := by decide +kernel
theorem dc_M_inverse_29 : decode bc_M_inverse 29 = .ok (.iconst 0, 1) := by decide +kernel
theorem dc_M_inverse_30 : decode bc_M_inverse 30 = .ok (.invokevirtual 52, 3) := by decide +kernel
theorem dc_M_inverse_33 : decode bc_M_inverse 33 = .ok (.ifCond .eq 7, 3) := by decide +kernel
theorem dc_M_inverse_36 : decode bc_M_inverse 36 = .ok (.iconst 1, 1) := by decide +kernel
theorem dc_M_inverse_37 : decode bc_M_inverse 37 = .ok (.goto 4, 3) := by decide +kernel
theorem dc_M_inverse_40 : decode bc_M_inverse 40 = .ok (.iconst 0, 1) := by decide +kernel
theorem dc_M_inverse_41 : decode bc_M_inverse 41 = .ok (.ireturn, 1) := by decide +kernel
theorem dc_M_isModulus_0 : decode bc_M_isModulus 0 = .ok (.iload_n 1, 1) := by decide +kernel
theorem dc_M_isModulus_1 : decode bc_M_isModulus 1 = .ok (.invokestatic 44, 3) := by decide +kernel
theorem dc_M_isModulus_4 : decode bc_M_isModulus 4 = .ok (.ifCond .eq 28, 3) := by decide +kernel
theorem dc_M_isModulus_7 : decode bc_M_isModulus 7 = .ok (.aload_n 0, 1) := by decide +kernel
theorem dc_M_isModulus_8 : decode bc_M_isModulus 8 = .ok (.getfield 15, 3) := by decide +kernel
theorem dc_M_isModulus_11 : decode bc_M_isModulus 11 = .ok (.iload_n 1, 1) := by decide +kernel
theorem dc_M_isModulus_12 : decode bc_M_isModulus 12 = .ok (.baload, 1) := by decide +kernel
theorem dc_M_isModulus_13 : decode bc_M_isModulus 13 = .ok (.ifCond .ne 19, 3) := by decide +kernel
theorem dc_M_isModulus_16 : decode bc_M_isModulus 16 = .ok (.aload_n 0, 1) := by decide +kernel
theorem dc_M_isModulus_17 : decode bc_M_isModulus 17 = .ok (.getfield 11, 3) := by decide +kernel
theorem dc_M_isModulus_20 : decode bc_M_isModulus 20 = .ok (.iload_n 1, 1) := by decide +kernel
theorem dc_M_isModulus_21 : decode bc_M_isModulus 21 = .ok (.aaload, 1) := by decide +kernel
theorem dc_M_isModulus_22 : decode bc_M_isModulus 22 = .ok (.invokevirtual 89, 3) := by decide +kernel
theorem dc_M_isModulus_25 : decode bc_M_isModulus 25 = .ok (.ifCond .ne 7, 3) := by decide +kernel
theorem dc_M_isModulus_28 : decode bc_M_isModulus 28 = .ok (.iconst 1, 1) := by decide +kernel
theorem dc_M_isModulus_29 : decode bc_M_isModulus 29 = .ok (.goto 4, 3) := by decide +kernel
theorem dc_M_isModulus_32 : decode bc_M_isModulus 32 = .ok (.iconst 0, 1) := by decide +kernel
theorem dc_M_isModulus_33 : decode bc_M_isModulus 33 = .ok (.ireturn, 1) := by decide +kernel
theorem dc_M_findInverse_0 : decode bc_M_findInverse 0 = .ok (.aload_n 0, 1) := by decide +kernel
theorem dc_M_findInverse_1 : decode bc_M_findInverse 1 = .ok (.iload_n 1, 1) := by decide +kernel
theorem dc_M_findInverse_2 : decode bc_M_findInverse 2 = .ok (.iload_n 2, 1) := by decide +kernel
theorem dc_M_findInverse_3 : decode bc_M_findInverse 3 = .ok (.invokevirtual 175, 3) := by decide +kernel
theorem dc_M_findInverse_6 : decode bc_M_findInverse 6 = .ok (.aload_n 0, 1) := by decide +kernel
theorem dc_M_findInverse_7 : decode bc_M_findInverse 7 = .ok (.getfield 40, 3) := by decide +kernel
theorem dc_M_findInverse_10 : decode bc_M_findInverse 10 = .ok (.aload_n 0, 1) := by decide +kernel
theorem dc_M_findInverse_11 : decode bc_M_findInverse 11 = .ok (.getfield 11, 3) := by decide +kernel
theorem dc_M_findInverse_14 : decode bc_M_findInverse 14 = .ok (.iload_n 2, 1) := by decide +kernel
theorem dc_M_findInverse_15 : decode bc_M_findInverse 15 = .ok (.aaload, 1) := by decide +kernel
theorem dc_M_findInverse_16 : decode bc_M_findInverse 16 = .ok (.aload_n 0, 1) := by decide +kernel
theorem dc_M_findInverse_17 : decode bc_M_findInverse 17 = .ok (.getfield 20, 3) := by decide +kernel
theorem dc_M_findInverse_20 : decode bc_M_findInverse 20 = .ok (.iconst 1, 1) := by decide +kernel
theorem dc_M_findInverse_21 : decode bc_M_findInverse 21 = .ok (.invokevirtual 158, 3) := by decide +kernel
theorem dc_M_findInverse_24 : decode bc_M_findInverse 24 = .ok (.aload_n 0, 1) := by decide +kernel
theorem dc_M_findInverse_25 : decode bc_M_findInverse 25 = .ok (.getfield 40, 3) := by decide +kernel
theorem dc_M_findInverse_28 : decode bc_M_findInverse 28 = .ok (.getfield 161, 3) := by decide +kernel
theorem dc_M_findInverse_31 : decode bc_M_findInverse 31 = .ok (.invokevirtual 170, 3) := by decide +kernel
theorem dc_M_findInverse_34 : decode bc_M_findInverse 34 = .ok (.iconst 1, 1) := by decide +kernel
theorem dc_M_findInverse_35 : decode bc_M_findInverse 35 = .ok (.if_icmp .eq 5, 3) := by decide +kernel
theorem dc_M_findInverse_38 : decode bc_M_findInverse 38 = .ok (.iconst 0, 1) := by decide +kernel
theorem dc_M_findInverse_39 : decode bc_M_findInverse 39 = .ok (.ireturn, 1) := by decide +kernel
theorem dc_M_findInverse_40 : decode bc_M_findInverse 40 = .ok (.aload_n 0, 1) := by decide +kernel
theorem dc_M_findInverse_41 : decode bc_M_findInverse 41 = .ok (.getfield 40, 3) := by decide +kernel
theorem dc_M_findInverse_44 : decode bc_M_findInverse 44 = .ok (.getfield 219, 3) := by decide +kernel
theorem dc_M_findInverse_47 : decode bc_M_findInverse 47 = .ok (.ifCond .eq 39, 3) := by decide +kernel
theorem dc_M_findInverse_50 : decode bc_M_findInverse 50 = .ok (.aload_n 0, 1) := by decide +kernel
theorem dc_M_findInverse_51 : decode bc_M_findInverse 51 = .ok (.getfield 40, 3) := by decide +kernel
theorem dc_M_findInverse_54 : decode bc_M_findInverse 54 = .ok (.getfield 223, 3) := by decide +kernel
theorem dc_M_findInverse_57 : decode bc_M_findInverse 57 = .ok (.invokevirtual 89, 3) := by decide +kernel
theorem dc_M_findInverse_60 : decode bc_M_findInverse 60 = .ok (.ifCond .ne 26, 3) := by decide +kernel
theorem dc_M_findInverse_63 : decode bc_M_findInverse 63 = .ok (.aload_n 0, 1) := by decide +kernel
theorem dc_M_findInverse_64 : decode bc_M_findInverse 64 = .ok (.getfield 20, 3) := by decide +kernel
theorem dc_M_findInverse_67 : decode bc_M_findInverse 67 = .ok (.aload_n 0, 1) := by decide +kernel
theorem dc_M_findInverse_68 : decode bc_M_findInverse 68 = .ok (.getfield 11, 3) := by decide +kernel
theorem dc_M_findInverse_71 : decode bc_M_findInverse 71 = .ok (.iload_n 2, 1) := by decide +kernel
theorem dc_M_findInverse_72 : decode bc_M_findInverse 72 = .ok (.aaload, 1) := by decide +kernel
theorem dc_M_findInverse_73 : decode bc_M_findInverse 73 = .ok (.aload_n 0, 1) := by decide +kernel
theorem dc_M_findInverse_74 : decode bc_M_findInverse 74 = .ok (.getfield 40, 3) := by decide +kernel
theorem dc_M_findInverse_77 : decode bc_M_findInverse 77 = .ok (.getfield 223, 3) := by decide +kernel
theorem dc_M_findInverse_80 : decode bc_M_findInverse 80 = .ok (.invokevirtual 102, 3) := by decide +kernel
theorem dc_M_findInverse_83 : decode bc_M_findInverse 83 = .ok (.goto 17, 3) := by decide +kernel
theorem dc_M_findInverse_86 : decode bc_M_findInverse 86 = .ok (.aload_n 0, 1) := by decide +kernel
theorem dc_M_findInverse_87 : decode bc_M_findInverse 87 = .ok (.getfield 20, 3) := by decide +kernel
theorem dc_M_findInverse_90 : decode bc_M_findInverse 90 = .ok (.aload_n 0, 1) := by decide +kernel
theorem dc_M_findInverse_91 : decode bc_M_findInverse 91 = .ok (.getfield 40, 3) := by decide +kernel
theorem dc_M_findInverse_94 : decode bc_M_findInverse 94 = .ok (.getfield 223, 3) := by decide +kernel
theorem dc_M_findInverse_97 : decode bc_M_findInverse 97 = .ok (.invokevirtual 74, 3) := by decide +kernel
theorem dc_M_findInverse_100 : decode bc_M_findInverse 100 = .ok (.iconst 1, 1) := by decide +kernel
theorem dc_M_findInverse_101 : decode bc_M_findInverse 101 = .ok (.ireturn, 1) := by decide +kernel
theorem dc_M_reduce_0 : decode bc_M_reduce 0 = .ok (.aload_n 0, 1) := by decide +kernel
theorem dc_M_reduce_1 : decode bc_M_reduce 1 = .ok (.getfield 33, 3) := by decide +kernel
theorem dc_M_reduce_4 : decode bc_M_reduce 4 = .ok (.aload_n 0, 1) := by decide +kernel
theorem dc_M_reduce_5 : decode bc_M_reduce 5 = .ok (.getfield 11, 3) := by decide +kernel
theorem dc_M_reduce_8 : decode bc_M_reduce 8 = .ok (.iload_n 1, 1) := by decide +kernel
theorem dc_M_reduce_9 : decode bc_M_reduce 9 = .ok (.aaload, 1) := by decide +kernel
theorem dc_M_reduce_10 : decode bc_M_reduce 10 = .ok (.aload_n 0, 1) := by decide +kernel
theorem dc_M_reduce_11 : decode bc_M_reduce 11 = .ok (.getfield 11, 3) := by decide +kernel
theorem dc_M_reduce_14 : decode bc_M_reduce 14 = .ok (.iload_n 2, 1) := by decide +kernel
theorem dc_M_reduce_15 : decode bc_M_reduce 15 = .ok (.aaload, 1) := by decide +kernel
theorem dc_M_reduce_16 : decode bc_M_reduce 16 = .ok (.invokevirtual 93, 3) := by decide +kernel
theorem dc_M_reduce_19 : decode bc_M_reduce 19 = .ok (.aload_n 0, 1) := by decide +kernel
theorem dc_M_reduce_20 : decode bc_M_reduce 20 = .ok (.getfield 15, 3) := by decide +kernel
theorem dc_M_reduce_23 : decode bc_M_reduce 23 = .ok (.iload_n 1, 1) := by decide +kernel
theorem dc_M_reduce_24 : decode bc_M_reduce 24 = .ok (.baload, 1) := by decide +kernel
theorem dc_M_reduce_25 : decode bc_M_reduce 25 = .ok (.ifCond .eq 39, 3) := by decide +kernel
theorem dc_M_reduce_28 : decode bc_M_reduce 28 = .ok (.aload_n 0, 1) := by decide +kernel
theorem dc_M_reduce_29 : decode bc_M_reduce 29 = .ok (.getfield 33, 3) := by decide +kernel
theorem dc_M_reduce_32 : decode bc_M_reduce 32 = .ok (.getfield 96, 3) := by decide +kernel
theorem dc_M_reduce_35 : decode bc_M_reduce 35 = .ok (.invokevirtual 89, 3) := by decide +kernel
theorem dc_M_reduce_38 : decode bc_M_reduce 38 = .ok (.ifCond .ne 26, 3) := by decide +kernel
theorem dc_M_reduce_41 : decode bc_M_reduce 41 = .ok (.aload_n 0, 1) := by decide +kernel
theorem dc_M_reduce_42 : decode bc_M_reduce 42 = .ok (.getfield 20, 3) := by decide +kernel
theorem dc_M_reduce_45 : decode bc_M_reduce 45 = .ok (.aload_n 0, 1) := by decide +kernel
theorem dc_M_reduce_46 : decode bc_M_reduce 46 = .ok (.getfield 11, 3) := by decide +kernel
theorem dc_M_reduce_49 : decode bc_M_reduce 49 = .ok (.iload_n 2, 1) := by decide +kernel
theorem dc_M_reduce_50 : decode bc_M_reduce 50 = .ok (.aaload, 1) := by decide +kernel
theorem dc_M_reduce_51 : decode bc_M_reduce 51 = .ok (.aload_n 0, 1) := by decide +kernel
theorem dc_M_reduce_52 : decode bc_M_reduce 52 = .ok (.getfield 33, 3) := by decide +kernel
theorem dc_M_reduce_55 : decode bc_M_reduce 55 = .ok (.getfield 96, 3) := by decide +kernel
theorem dc_M_reduce_58 : decode bc_M_reduce 58 = .ok (.invokevirtual 102, 3) := by decide +kernel
theorem dc_M_reduce_61 : decode bc_M_reduce 61 = .ok (.goto 17, 3) := by decide +kernel
theorem dc_M_reduce_64 : decode bc_M_reduce 64 = .ok (.aload_n 0, 1) := by decide +kernel
theorem dc_M_reduce_65 : decode bc_M_reduce 65 = .ok (.getfield 20, 3) := by decide +kernel
theorem dc_M_reduce_68 : decode bc_M_reduce 68 = .ok (.aload_n 0, 1) := by decide +kernel
theorem dc_M_reduce_69 : decode bc_M_reduce 69 = .ok (.getfield 33, 3) := by decide +kernel
theorem dc_M_reduce_72 : decode bc_M_reduce 72 = .ok (.getfield 96, 3) := by decide +kernel
theorem dc_M_reduce_75 : decode bc_M_reduce 75 = .ok (.invokevirtual 74, 3) := by decide +kernel
theorem dc_M_reduce_78 : decode bc_M_reduce 78 = .ok (.return_, 1) := by decide +kernel
theorem dc_M_modulo_0 : decode bc_M_modulo 0 = .ok (.iload_n 1, 1) := by decide +kernel
theorem dc_M_modulo_1 : decode bc_M_modulo 1 = .ok (.iload_n 2, 1) := by decide +kernel
theorem dc_M_modulo_2 : decode bc_M_modulo 2 = .ok (.invokestatic 70, 3) := by decide +kernel
theorem dc_M_modulo_5 : decode bc_M_modulo 5 = .ok (.ifCond .eq 19, 3) := by decide +kernel
theorem dc_M_modulo_8 : decode bc_M_modulo 8 = .ok (.iload_n 3, 1) := by decide +kernel
theorem dc_M_modulo_9 : decode bc_M_modulo 9 = .ok (.invokestatic 44, 3) := by decide +kernel
theorem dc_M_modulo_12 : decode bc_M_modulo 12 = .ok (.ifCond .eq 12, 3) := by decide +kernel
theorem dc_M_modulo_15 : decode bc_M_modulo 15 = .ok (.aload_n 0, 1) := by decide +kernel
theorem dc_M_modulo_16 : decode bc_M_modulo 16 = .ok (.iload 4, 2) := by decide +kernel
theorem dc_M_modulo_18 : decode bc_M_modulo 18 = .ok (.invokevirtual 164, 3) := by decide +kernel
theorem dc_M_modulo_21 : decode bc_M_modulo 21 = .ok (.ifCond .ne 5, 3) := by decide +kernel
theorem dc_M_modulo_24 : decode bc_M_modulo 24 = .ok (.iconst 0, 1) := by decide +kernel
theorem dc_M_modulo_25 : decode bc_M_modulo 25 = .ok (.ireturn, 1) := by decide +kernel
theorem dc_M_modulo_26 : decode bc_M_modulo 26 = .ok (.aload_n 0, 1) := by decide +kernel
theorem dc_M_modulo_27 : decode bc_M_modulo 27 = .ok (.getfield 11, 3) := by decide +kernel
theorem dc_M_modulo_30 : decode bc_M_modulo 30 = .ok (.iload 4, 2) := by decide +kernel
theorem dc_M_modulo_32 : decode bc_M_modulo 32 = .ok (.aaload, 1) := by decide +kernel
theorem dc_M_modulo_33 : decode bc_M_modulo 33 = .ok (.invokevirtual 170, 3) := by decide +kernel
theorem dc_M_modulo_36 : decode bc_M_modulo 36 = .ok (.i2l, 1) := by decide +kernel
theorem dc_M_modulo_37 : decode bc_M_modulo 37 = .ok (.lstore 5, 2) := by decide +kernel
theorem dc_M_modulo_39 : decode bc_M_modulo 39 = .ok (.aload_n 0, 1) := by decide +kernel
theorem dc_M_modulo_40 : decode bc_M_modulo 40 = .ok (.getfield 11, 3) := by decide +kernel
theorem dc_M_modulo_43 : decode bc_M_modulo 43 = .ok (.iload_n 3, 1) := by decide +kernel
theorem dc_M_modulo_44 : decode bc_M_modulo 44 = .ok (.aaload, 1) := by decide +kernel
theorem dc_M_modulo_45 : decode bc_M_modulo 45 = .ok (.invokevirtual 170, 3) := by decide +kernel
theorem dc_M_modulo_48 : decode bc_M_modulo 48 = .ok (.i2l, 1) := by decide +kernel
theorem dc_M_modulo_49 : decode bc_M_modulo 49 = .ok (.lload 5, 2) := by decide +kernel
theorem dc_M_modulo_51 : decode bc_M_modulo 51 = .ok (.lmul, 1) := by decide +kernel
theorem dc_M_modulo_52 : decode bc_M_modulo 52 = .ok (.lload 5, 2) := by decide +kernel
theorem dc_M_modulo_54 : decode bc_M_modulo 54 = .ok (.lmul, 1) := by decide +kernel
theorem dc_M_modulo_55 : decode bc_M_modulo 55 = .ok (.ldc2_w 173, 3) := by decide +kernel
theorem dc_M_modulo_58 : decode bc_M_modulo 58 = .ok (.lcmp, 1) := by decide +kernel
theorem dc_M_modulo_59 : decode bc_M_modulo 59 = .ok (.ifCond .le 5, 3) := by decide +kernel
theorem dc_M_modulo_62 : decode bc_M_modulo 62 = .ok (.iconst 0, 1) := by decide +kernel
theorem dc_M_modulo_63 : decode bc_M_modulo 63 = .ok (.ireturn, 1) := by decide +kernel
theorem dc_M_modulo_64 : decode bc_M_modulo 64 = .ok (.aload_n 0, 1) := by decide +kernel
theorem dc_M_modulo_65 : decode bc_M_modulo 65 = .ok (.getfield 15, 3) := by decide +kernel
theorem dc_M_modulo_68 : decode bc_M_modulo 68 = .ok (.iload_n 3, 1) := by decide +kernel
theorem dc_M_modulo_69 : decode bc_M_modulo 69 = .ok (.baload, 1) := by decide +kernel
theorem dc_M_modulo_70 : decode bc_M_modulo 70 = .ok (.ifCond .ne 13, 3) := by decide +kernel
theorem dc_M_modulo_73 : decode bc_M_modulo 73 = .ok (.aload_n 0, 1) := by decide +kernel
theorem dc_M_modulo_74 : decode bc_M_modulo 74 = .ok (.iload_n 2, 1) := by decide +kernel
theorem dc_M_modulo_75 : decode bc_M_modulo 75 = .ok (.iload 4, 2) := by decide +kernel
theorem dc_M_modulo_77 : decode bc_M_modulo 77 = .ok (.invokevirtual 175, 3) := by decide +kernel
theorem dc_M_modulo_80 : decode bc_M_modulo 80 = .ok (.goto 15, 3) := by decide +kernel
theorem dc_M_modulo_83 : decode bc_M_modulo 83 = .ok (.aload_n 0, 1) := by decide +kernel
theorem dc_M_modulo_84 : decode bc_M_modulo 84 = .ok (.iload_n 2, 1) := by decide +kernel
theorem dc_M_modulo_85 : decode bc_M_modulo 85 = .ok (.iload 4, 2) := by decide +kernel
theorem dc_M_modulo_87 : decode bc_M_modulo 87 = .ok (.invokevirtual 167, 3) := by decide +kernel
theorem dc_M_modulo_90 : decode bc_M_modulo 90 = .ok (.ifCond .ne 5, 3) := by decide +kernel
theorem dc_M_modulo_93 : decode bc_M_modulo 93 = .ok (.iconst 0, 1) := by decide +kernel
theorem dc_M_modulo_94 : decode bc_M_modulo 94 = .ok (.ireturn, 1) := by decide +kernel
theorem dc_M_modulo_95 : decode bc_M_modulo 95 = .ok (.aload_n 0, 1) := by decide +kernel
theorem dc_M_modulo_96 : decode bc_M_modulo 96 = .ok (.getfield 27, 3) := by decide +kernel
theorem dc_M_modulo_99 : decode bc_M_modulo 99 = .ok (.aload_n 0, 1) := by decide +kernel
theorem dc_M_modulo_100 : decode bc_M_modulo 100 = .ok (.getfield 20, 3) := by decide +kernel
theorem dc_M_modulo_103 : decode bc_M_modulo 103 = .ok (.invokevirtual 74, 3) := by decide +kernel
theorem dc_M_modulo_106 : decode bc_M_modulo 106 = .ok (.aload_n 0, 1) := by decide +kernel
theorem dc_M_modulo_107 : decode bc_M_modulo 107 = .ok (.aload_n 0, 1) := by decide +kernel
theorem dc_M_modulo_108 : decode bc_M_modulo 108 = .ok (.getfield 11, 3) := by decide +kernel
theorem dc_M_modulo_111 : decode bc_M_modulo 111 = .ok (.iload_n 3, 1) := by decide +kernel
theorem dc_M_modulo_112 : decode bc_M_modulo 112 = .ok (.aaload, 1) := by decide +kernel
theorem dc_M_modulo_113 : decode bc_M_modulo 113 = .ok (.aload_n 0, 1) := by decide +kernel
theorem dc_M_modulo_114 : decode bc_M_modulo 114 = .ok (.getfield 11, 3) := by decide +kernel
theorem dc_M_modulo_117 : decode bc_M_modulo 117 = .ok (.iload 4, 2) := by decide +kernel
theorem dc_M_modulo_119 : decode bc_M_modulo 119 = .ok (.aaload, 1) := by decide +kernel
theorem dc_M_modulo_120 : decode bc_M_modulo 120 = .ok (.invokevirtual 179, 3) := by decide +kernel
theorem dc_M_modulo_123 : decode bc_M_modulo 123 = .ok (.aload_n 0, 1) := by decide +kernel
theorem dc_M_modulo_124 : decode bc_M_modulo 124 = .ok (.iload_n 1, 1) := by decide +kernel
theorem dc_M_modulo_125 : decode bc_M_modulo 125 = .ok (.iconst 0, 1) := by decide +kernel
theorem dc_M_modulo_126 : decode bc_M_modulo 126 = .ok (.invokevirtual 52, 3) := by decide +kernel
theorem dc_M_modulo_129 : decode bc_M_modulo 129 = .ok (.ireturn, 1) := by decide +kernel
theorem dc_M_findPowerByModulus_0 : decode bc_M_findPowerByModulus 0 = .ok (.aload_n 1, 1) := by decide +kernel
theorem dc_M_findPowerByModulus_1 : decode bc_M_findPowerByModulus 1 = .ok (.invokevirtual 170, 3) := by decide +kernel
theorem dc_M_findPowerByModulus_4 : decode bc_M_findPowerByModulus 4 = .ok (.istore_n 3, 1) := by decide +kernel
theorem dc_M_findPowerByModulus_5 : decode bc_M_findPowerByModulus 5 = .ok (.iload_n 3, 1) := by decide +kernel
theorem dc_M_findPowerByModulus_6 : decode bc_M_findPowerByModulus 6 = .ok (.ifCond .ne 38, 3) := by decide +kernel
theorem dc_M_findPowerByModulus_9 : decode bc_M_findPowerByModulus 9 = .ok (.aload_n 0, 1) := by decide +kernel
theorem dc_M_findPowerByModulus_10 : decode bc_M_findPowerByModulus 10 = .ok (.getfield 24, 3) := by decide +kernel
theorem dc_M_findPowerByModulus_13 : decode bc_M_findPowerByModulus 13 = .ok (.lconst 1, 1) := by decide +kernel
theorem dc_M_findPowerByModulus_14 : decode bc_M_findPowerByModulus 14 = .ok (.invokevirtual 48, 3) := by decide +kernel
theorem dc_M_findPowerByModulus_17 : decode bc_M_findPowerByModulus 17 = .ok (.aload_n 0, 1) := by decide +kernel
theorem dc_M_findPowerByModulus_18 : decode bc_M_findPowerByModulus 18 = .ok (.getfield 33, 3) := by decide +kernel
theorem dc_M_findPowerByModulus_21 : decode bc_M_findPowerByModulus 21 = .ok (.aload_n 0, 1) := by decide +kernel
theorem dc_M_findPowerByModulus_22 : decode bc_M_findPowerByModulus 22 = .ok (.getfield 24, 3) := by decide +kernel
theorem dc_M_findPowerByModulus_25 : decode bc_M_findPowerByModulus 25 = .ok (.aload_n 2, 1) := by decide +kernel
theorem dc_M_findPowerByModulus_26 : decode bc_M_findPowerByModulus 26 = .ok (.invokevirtual 93, 3) := by decide +kernel
theorem dc_M_findPowerByModulus_29 : decode bc_M_findPowerByModulus 29 = .ok (.aload_n 0, 1) := by decide +kernel
theorem dc_M_findPowerByModulus_30 : decode bc_M_findPowerByModulus 30 = .ok (.getfield 20, 3) := by decide +kernel
theorem dc_M_findPowerByModulus_33 : decode bc_M_findPowerByModulus 33 = .ok (.aload_n 0, 1) := by decide +kernel
theorem dc_M_findPowerByModulus_34 : decode bc_M_findPowerByModulus 34 = .ok (.getfield 33, 3) := by decide +kernel
theorem dc_M_findPowerByModulus_37 : decode bc_M_findPowerByModulus 37 = .ok (.getfield 96, 3) := by decide +kernel
theorem dc_M_findPowerByModulus_40 : decode bc_M_findPowerByModulus 40 = .ok (.invokevirtual 74, 3) := by decide +kernel
theorem dc_M_findPowerByModulus_43 : decode bc_M_findPowerByModulus 43 = .ok (.return_, 1) := by decide +kernel
theorem dc_M_findPowerByModulus_44 : decode bc_M_findPowerByModulus 44 = .ok (.aload_n 0, 1) := by decide +kernel
theorem dc_M_findPowerByModulus_45 : decode bc_M_findPowerByModulus 45 = .ok (.getfield 20, 3) := by decide +kernel
theorem dc_M_findPowerByModulus_48 : decode bc_M_findPowerByModulus 48 = .ok (.aload_n 0, 1) := by decide +kernel
theorem dc_M_findPowerByModulus_49 : decode bc_M_findPowerByModulus 49 = .ok (.getfield 27, 3) := by decide +kernel
theorem dc_M_findPowerByModulus_52 : decode bc_M_findPowerByModulus 52 = .ok (.invokevirtual 74, 3) := by decide +kernel
theorem dc_M_findPowerByModulus_55 : decode bc_M_findPowerByModulus 55 = .ok (.iload_n 3, 1) := by decide +kernel
theorem dc_M_findPowerByModulus_56 : decode bc_M_findPowerByModulus 56 = .ok (.iconst 2, 1) := by decide +kernel
theorem dc_M_findPowerByModulus_57 : decode bc_M_findPowerByModulus 57 = .ok (.isub, 1) := by decide +kernel
theorem dc_M_findPowerByModulus_58 : decode bc_M_findPowerByModulus 58 = .ok (.istore 4, 2) := by decide +kernel
theorem dc_M_findPowerByModulus_60 : decode bc_M_findPowerByModulus 60 = .ok (.iload 4, 2) := by decide +kernel
theorem dc_M_findPowerByModulus_62 : decode bc_M_findPowerByModulus 62 = .ok (.ifCond .lt 36, 3) := by decide +kernel
theorem dc_M_findPowerByModulus_65 : decode bc_M_findPowerByModulus 65 = .ok (.aload_n 0, 1) := by decide +kernel
theorem dc_M_findPowerByModulus_66 : decode bc_M_findPowerByModulus 66 = .ok (.aload_n 0, 1) := by decide +kernel
theorem dc_M_findPowerByModulus_67 : decode bc_M_findPowerByModulus 67 = .ok (.getfield 20, 3) := by decide +kernel
theorem dc_M_findPowerByModulus_70 : decode bc_M_findPowerByModulus 70 = .ok (.aload_n 2, 1) := by decide +kernel
theorem dc_M_findPowerByModulus_71 : decode bc_M_findPowerByModulus 71 = .ok (.invokevirtual 226, 3) := by decide +kernel
theorem dc_M_findPowerByModulus_74 : decode bc_M_findPowerByModulus 74 = .ok (.aload_n 1, 1) := by decide +kernel
theorem dc_M_findPowerByModulus_75 : decode bc_M_findPowerByModulus 75 = .ok (.iload 4, 2) := by decide +kernel
theorem dc_M_findPowerByModulus_77 : decode bc_M_findPowerByModulus 77 = .ok (.invokevirtual 229, 3) := by decide +kernel
theorem dc_M_findPowerByModulus_80 : decode bc_M_findPowerByModulus 80 = .ok (.ifCond .eq 12, 3) := by decide +kernel
theorem dc_M_findPowerByModulus_83 : decode bc_M_findPowerByModulus 83 = .ok (.aload_n 0, 1) := by decide +kernel
theorem dc_M_findPowerByModulus_84 : decode bc_M_findPowerByModulus 84 = .ok (.aload_n 0, 1) := by decide +kernel
theorem dc_M_findPowerByModulus_85 : decode bc_M_findPowerByModulus 85 = .ok (.getfield 27, 3) := by decide +kernel
theorem dc_M_findPowerByModulus_88 : decode bc_M_findPowerByModulus 88 = .ok (.aload_n 2, 1) := by decide +kernel
theorem dc_M_findPowerByModulus_89 : decode bc_M_findPowerByModulus 89 = .ok (.invokevirtual 226, 3) := by decide +kernel
theorem dc_M_findPowerByModulus_92 : decode bc_M_findPowerByModulus 92 = .ok (.iinc 4 (-1), 3) := by decide +kernel
theorem dc_M_findPowerByModulus_95 : decode bc_M_findPowerByModulus 95 = .ok (.goto (-35), 3) := by decide +kernel
theorem dc_M_findPowerByModulus_98 : decode bc_M_findPowerByModulus 98 = .ok (.return_, 1) := by decide +kernel
theorem dc_M_multiplyByModulus_0 : decode bc_M_multiplyByModulus 0 = .ok (.aload_n 0, 1) := by decide +kernel
theorem dc_M_multiplyByModulus_1 : decode bc_M_multiplyByModulus 1 = .ok (.getfield 24, 3) := by decide +kernel
theorem dc_M_multiplyByModulus_4 : decode bc_M_multiplyByModulus 4 = .ok (.aload_n 0, 1) := by decide +kernel
theorem dc_M_multiplyByModulus_5 : decode bc_M_multiplyByModulus 5 = .ok (.getfield 20, 3) := by decide +kernel
theorem dc_M_multiplyByModulus_8 : decode bc_M_multiplyByModulus 8 = .ok (.aload_n 1, 1) := by decide +kernel
theorem dc_M_multiplyByModulus_9 : decode bc_M_multiplyByModulus 9 = .ok (.invokevirtual 86, 3) := by decide +kernel
theorem dc_M_multiplyByModulus_12 : decode bc_M_multiplyByModulus 12 = .ok (.aload_n 0, 1) := by decide +kernel
theorem dc_M_multiplyByModulus_13 : decode bc_M_multiplyByModulus 13 = .ok (.getfield 33, 3) := by decide +kernel
theorem dc_M_multiplyByModulus_16 : decode bc_M_multiplyByModulus 16 = .ok (.aload_n 0, 1) := by decide +kernel
theorem dc_M_multiplyByModulus_17 : decode bc_M_multiplyByModulus 17 = .ok (.getfield 24, 3) := by decide +kernel
theorem dc_M_multiplyByModulus_20 : decode bc_M_multiplyByModulus 20 = .ok (.aload_n 2, 1) := by decide +kernel
theorem dc_M_multiplyByModulus_21 : decode bc_M_multiplyByModulus 21 = .ok (.invokevirtual 93, 3) := by decide +kernel
theorem dc_M_multiplyByModulus_24 : decode bc_M_multiplyByModulus 24 = .ok (.aload_n 0, 1) := by decide +kernel
theorem dc_M_multiplyByModulus_25 : decode bc_M_multiplyByModulus 25 = .ok (.getfield 20, 3) := by decide +kernel
theorem dc_M_multiplyByModulus_28 : decode bc_M_multiplyByModulus 28 = .ok (.aload_n 0, 1) := by decide +kernel
theorem dc_M_multiplyByModulus_29 : decode bc_M_multiplyByModulus 29 = .ok (.getfield 33, 3) := by decide +kernel
theorem dc_M_multiplyByModulus_32 : decode bc_M_multiplyByModulus 32 = .ok (.getfield 96, 3) := by decide +kernel
theorem dc_M_multiplyByModulus_35 : decode bc_M_multiplyByModulus 35 = .ok (.invokevirtual 74, 3) := by decide +kernel
theorem dc_M_multiplyByModulus_38 : decode bc_M_multiplyByModulus 38 = .ok (.return_, 1) := by decide +kernel
theorem dc_M_compare_0 : decode bc_M_compare 0 = .ok (.iload_n 1, 1) := by decide +kernel
theorem dc_M_compare_1 : decode bc_M_compare 1 = .ok (.iload_n 2, 1) := by decide +kernel
theorem dc_M_compare_2 : decode bc_M_compare 2 = .ok (.invokestatic 70, 3) := by decide +kernel
theorem dc_M_compare_5 : decode bc_M_compare 5 = .ok (.ifCond .ne 6, 3) := by decide +kernel
theorem dc_M_compare_8 : decode bc_M_compare 8 = .ok (.bipush (-2), 2) := by decide +kernel
theorem dc_M_compare_10 : decode bc_M_compare 10 = .ok (.ireturn, 1) := by decide +kernel
theorem dc_M_compare_11 : decode bc_M_compare 11 = .ok (.aload_n 0, 1) := by decide +kernel
theorem dc_M_compare_12 : decode bc_M_compare 12 = .ok (.getfield 15, 3) := by decide +kernel
theorem dc_M_compare_15 : decode bc_M_compare 15 = .ok (.iload_n 1, 1) := by decide +kernel
theorem dc_M_compare_16 : decode bc_M_compare 16 = .ok (.baload, 1) := by decide +kernel
theorem dc_M_compare_17 : decode bc_M_compare 17 = .ok (.aload_n 0, 1) := by decide +kernel
theorem dc_M_compare_18 : decode bc_M_compare 18 = .ok (.getfield 15, 3) := by decide +kernel
theorem dc_M_compare_21 : decode bc_M_compare 21 = .ok (.iload_n 2, 1) := by decide +kernel
theorem dc_M_compare_22 : decode bc_M_compare 22 = .ok (.baload, 1) := by decide +kernel
theorem dc_M_compare_23 : decode bc_M_compare 23 = .ok (.if_icmp .eq 18, 3) := by decide +kernel
theorem dc_M_compare_26 : decode bc_M_compare 26 = .ok (.aload_n 0, 1) := by decide +kernel
theorem dc_M_compare_27 : decode bc_M_compare 27 = .ok (.getfield 15, 3) := by decide +kernel
theorem dc_M_compare_30 : decode bc_M_compare 30 = .ok (.iload_n 1, 1) := by decide +kernel
theorem dc_M_compare_31 : decode bc_M_compare 31 = .ok (.baload, 1) := by decide +kernel
theorem dc_M_compare_32 : decode bc_M_compare 32 = .ok (.ifCond .eq 7, 3) := by decide +kernel
theorem dc_M_compare_35 : decode bc_M_compare 35 = .ok (.iconst (-1), 1) := by decide +kernel
theorem dc_M_compare_36 : decode bc_M_compare 36 = .ok (.goto 4, 3) := by decide +kernel
theorem dc_M_compare_39 : decode bc_M_compare 39 = .ok (.iconst 1, 1) := by decide +kernel
theorem dc_M_compare_40 : decode bc_M_compare 40 = .ok (.ireturn, 1) := by decide +kernel
theorem dc_M_compare_41 : decode bc_M_compare 41 = .ok (.aload_n 0, 1) := by decide +kernel
theorem dc_M_compare_42 : decode bc_M_compare 42 = .ok (.getfield 11, 3) := by decide +kernel
theorem dc_M_compare_45 : decode bc_M_compare 45 = .ok (.iload_n 1, 1) := by decide +kernel
theorem dc_M_compare_46 : decode bc_M_compare 46 = .ok (.aaload, 1) := by decide +kernel
theorem dc_M_compare_47 : decode bc_M_compare 47 = .ok (.aload_n 0, 1) := by decide +kernel
theorem dc_M_compare_48 : decode bc_M_compare 48 = .ok (.getfield 11, 3) := by decide +kernel
theorem dc_M_compare_51 : decode bc_M_compare 51 = .ok (.iload_n 2, 1) := by decide +kernel
theorem dc_M_compare_52 : decode bc_M_compare 52 = .ok (.aaload, 1) := by decide +kernel
theorem dc_M_compare_53 : decode bc_M_compare 53 = .ok (.invokevirtual 182, 3) := by decide +kernel
theorem dc_M_compare_56 : decode bc_M_compare 56 = .ok (.istore_n 3, 1) := by decide +kernel
theorem dc_M_compare_57 : decode bc_M_compare 57 = .ok (.aload_n 0, 1) := by decide +kernel
theorem dc_M_compare_58 : decode bc_M_compare 58 = .ok (.getfield 15, 3) := by decide +kernel
theorem dc_M_compare_61 : decode bc_M_compare 61 = .ok (.iload_n 1, 1) := by decide +kernel
theorem dc_M_compare_62 : decode bc_M_compare 62 = .ok (.baload, 1) := by decide +kernel
theorem dc_M_compare_63 : decode bc_M_compare 63 = .ok (.ifCond .eq 8, 3) := by decide +kernel
theorem dc_M_compare_66 : decode bc_M_compare 66 = .ok (.iload_n 3, 1) := by decide +kernel
theorem dc_M_compare_67 : decode bc_M_compare 67 = .ok (.ineg, 1) := by decide +kernel
theorem dc_M_compare_68 : decode bc_M_compare 68 = .ok (.goto 4, 3) := by decide +kernel
theorem dc_M_compare_71 : decode bc_M_compare 71 = .ok (.iload_n 3, 1) := by decide +kernel
theorem dc_M_compare_72 : decode bc_M_compare 72 = .ok (.ireturn, 1) := by decide +kernel
theorem dc_M_sign_0 : decode bc_M_sign 0 = .ok (.iload_n 1, 1) := by decide +kernel
theorem dc_M_sign_1 : decode bc_M_sign 1 = .ok (.invokestatic 44, 3) := by decide +kernel
theorem dc_M_sign_4 : decode bc_M_sign 4 = .ok (.ifCond .ne 6, 3) := by decide +kernel
theorem dc_M_sign_7 : decode bc_M_sign 7 = .ok (.bipush (-2), 2) := by decide +kernel
theorem dc_M_sign_9 : decode bc_M_sign 9 = .ok (.ireturn, 1) := by decide +kernel
theorem dc_M_sign_10 : decode bc_M_sign 10 = .ok (.aload_n 0, 1) := by decide +kernel
theorem dc_M_sign_11 : decode bc_M_sign 11 = .ok (.getfield 11, 3) := by decide +kernel
theorem dc_M_sign_14 : decode bc_M_sign 14 = .ok (.iload_n 1, 1) := by decide +kernel
theorem dc_M_sign_15 : decode bc_M_sign 15 = .ok (.aaload, 1) := by decide +kernel
theorem dc_M_sign_16 : decode bc_M_sign 16 = .ok (.invokevirtual 89, 3) := by decide +kernel
theorem dc_M_sign_19 : decode bc_M_sign 19 = .ok (.ifCond .eq 5, 3) := by decide +kernel
theorem dc_M_sign_22 : decode bc_M_sign 22 = .ok (.iconst 0, 1) := by decide +kernel
theorem dc_M_sign_23 : decode bc_M_sign 23 = .ok (.ireturn, 1) := by decide +kernel
theorem dc_M_sign_24 : decode bc_M_sign 24 = .ok (.aload_n 0, 1) := by decide +kernel
theorem dc_M_sign_25 : decode bc_M_sign 25 = .ok (.getfield 15, 3) := by decide +kernel
theorem dc_M_sign_28 : decode bc_M_sign 28 = .ok (.iload_n 1, 1) := by decide +kernel
theorem dc_M_sign_29 : decode bc_M_sign 29 = .ok (.baload, 1) := by decide +kernel
theorem dc_M_sign_30 : decode bc_M_sign 30 = .ok (.ifCond .eq 7, 3) := by decide +kernel
theorem dc_M_sign_33 : decode bc_M_sign 33 = .ok (.iconst (-1), 1) := by decide +kernel
theorem dc_M_sign_34 : decode bc_M_sign 34 = .ok (.goto 4, 3) := by decide +kernel
theorem dc_M_sign_37 : decode bc_M_sign 37 = .ok (.iconst 1, 1) := by decide +kernel
theorem dc_M_sign_38 : decode bc_M_sign 38 = .ok (.ireturn, 1) := by decide +kernel
theorem dc_M_length_0 : decode bc_M_length 0 = .ok (.iload_n 1, 1) := by decide +kernel
theorem dc_M_length_1 : decode bc_M_length 1 = .ok (.invokestatic 44, 3) := by decide +kernel
theorem dc_M_length_4 : decode bc_M_length 4 = .ok (.ifCond .ne 5, 3) := by decide +kernel
theorem dc_M_length_7 : decode bc_M_length 7 = .ok (.iconst (-1), 1) := by decide +kernel
theorem dc_M_length_8 : decode bc_M_length 8 = .ok (.ireturn, 1) := by decide +kernel
theorem dc_M_length_9 : decode bc_M_length 9 = .ok (.aload_n 0, 1) := by decide +kernel
theorem dc_M_length_10 : decode bc_M_length 10 = .ok (.getfield 11, 3) := by decide +kernel
theorem dc_M_length_13 : decode bc_M_length 13 = .ok (.iload_n 1, 1) := by decide +kernel
theorem dc_M_length_14 : decode bc_M_length 14 = .ok (.aaload, 1) := by decide +kernel
theorem dc_M_length_15 : decode bc_M_length 15 = .ok (.invokevirtual 170, 3) := by decide +kernel
theorem dc_M_length_18 : decode bc_M_length 18 = .ok (.istore_n 2, 1) := by decide +kernel
theorem dc_M_length_19 : decode bc_M_length 19 = .ok (.aload_n 0, 1) := by decide +kernel
theorem dc_M_length_20 : decode bc_M_length 20 = .ok (.getfield 15, 3) := by decide +kernel
theorem dc_M_length_23 : decode bc_M_length 23 = .ok (.iload_n 1, 1) := by decide +kernel
theorem dc_M_length_24 : decode bc_M_length 24 = .ok (.baload, 1) := by decide +kernel
theorem dc_M_length_25 : decode bc_M_length 25 = .ok (.ifCond .eq 22, 3) := by decide +kernel
theorem dc_M_length_28 : decode bc_M_length 28 = .ok (.aload_n 0, 1) := by decide +kernel
theorem dc_M_length_29 : decode bc_M_length 29 = .ok (.getfield 11, 3) := by decide +kernel
theorem dc_M_length_32 : decode bc_M_length 32 = .ok (.iload_n 1, 1) := by decide +kernel
theorem dc_M_length_33 : decode bc_M_length 33 = .ok (.aaload, 1) := by decide +kernel
theorem dc_M_length_34 : decode bc_M_length 34 = .ok (.invokevirtual 186, 3) := by decide +kernel
theorem dc_M_length_37 : decode bc_M_length 37 = .ok (.iload_n 2, 1) := by decide +kernel
theorem dc_M_length_38 : decode bc_M_length 38 = .ok (.iconst 1, 1) := by decide +kernel
theorem dc_M_length_39 : decode bc_M_length 39 = .ok (.isub, 1) := by decide +kernel
theorem dc_M_length_40 : decode bc_M_length 40 = .ok (.if_icmp .ne 7, 3) := by decide +kernel
theorem dc_M_length_43 : decode bc_M_length 43 = .ok (.iconst 1, 1) := by decide +kernel
theorem dc_M_length_44 : decode bc_M_length 44 = .ok (.goto 4, 3) := by decide +kernel
theorem dc_M_length_47 : decode bc_M_length 47 = .ok (.iconst 0, 1) := by decide +kernel
theorem dc_M_length_48 : decode bc_M_length 48 = .ok (.istore_n 3, 1) := by decide +kernel
theorem dc_M_length_49 : decode bc_M_length 49 = .ok (.iload_n 3, 1) := by decide +kernel
theorem dc_M_length_50 : decode bc_M_length 50 = .ok (.ifCond .eq 9, 3) := by decide +kernel
theorem dc_M_length_53 : decode bc_M_length 53 = .ok (.iload_n 2, 1) := by decide +kernel
theorem dc_M_length_54 : decode bc_M_length 54 = .ok (.iconst 1, 1) := by decide +kernel
theorem dc_M_length_55 : decode bc_M_length 55 = .ok (.isub, 1) := by decide +kernel
theorem dc_M_length_56 : decode bc_M_length 56 = .ok (.goto 4, 3) := by decide +kernel
theorem dc_M_length_59 : decode bc_M_length 59 = .ok (.iload_n 2, 1) := by decide +kernel
theorem dc_M_length_60 : decode bc_M_length 60 = .ok (.ireturn, 1) := by decide +kernel
theorem dc_M_ones_0 : decode bc_M_ones 0 = .ok (.iload_n 1, 1) := by decide +kernel
theorem dc_M_ones_1 : decode bc_M_ones 1 = .ok (.invokestatic 44, 3) := by decide +kernel
theorem dc_M_ones_4 : decode bc_M_ones 4 = .ok (.ifCond .ne 5, 3) := by decide +kernel
theorem dc_M_ones_7 : decode bc_M_ones 7 = .ok (.iconst (-1), 1) := by decide +kernel
theorem dc_M_ones_8 : decode bc_M_ones 8 = .ok (.ireturn, 1) := by decide +kernel
theorem dc_M_ones_9 : decode bc_M_ones 9 = .ok (.aload_n 0, 1) := by decide +kernel
theorem dc_M_ones_10 : decode bc_M_ones 10 = .ok (.getfield 11, 3) := by decide +kernel
theorem dc_M_ones_13 : decode bc_M_ones 13 = .ok (.iload_n 1, 1) := by decide +kernel
theorem dc_M_ones_14 : decode bc_M_ones 14 = .ok (.aaload, 1) := by decide +kernel
theorem dc_M_ones_15 : decode bc_M_ones 15 = .ok (.invokevirtual 189, 3) := by decide +kernel
theorem dc_M_ones_18 : decode bc_M_ones 18 = .ok (.istore_n 2, 1) := by decide +kernel
theorem dc_M_ones_19 : decode bc_M_ones 19 = .ok (.aload_n 0, 1) := by decide +kernel
theorem dc_M_ones_20 : decode bc_M_ones 20 = .ok (.getfield 15, 3) := by decide +kernel
theorem dc_M_ones_23 : decode bc_M_ones 23 = .ok (.iload_n 1, 1) := by decide +kernel
theorem dc_M_ones_24 : decode bc_M_ones 24 = .ok (.baload, 1) := by decide +kernel
theorem dc_M_ones_25 : decode bc_M_ones 25 = .ok (.ifCond .eq 19, 3) := by decide +kernel
theorem dc_M_ones_28 : decode bc_M_ones 28 = .ok (.iload_n 2, 1) := by decide +kernel
theorem dc_M_ones_29 : decode bc_M_ones 29 = .ok (.iconst 1, 1) := by decide +kernel
theorem dc_M_ones_30 : decode bc_M_ones 30 = .ok (.isub, 1) := by decide +kernel
theorem dc_M_ones_31 : decode bc_M_ones 31 = .ok (.aload_n 0, 1) := by decide +kernel
theorem dc_M_ones_32 : decode bc_M_ones 32 = .ok (.getfield 11, 3) := by decide +kernel
theorem dc_M_ones_35 : decode bc_M_ones 35 = .ok (.iload_n 1, 1) := by decide +kernel
theorem dc_M_ones_36 : decode bc_M_ones 36 = .ok (.aaload, 1) := by decide +kernel
theorem dc_M_ones_37 : decode bc_M_ones 37 = .ok (.invokevirtual 186, 3) := by decide +kernel
theorem dc_M_ones_40 : decode bc_M_ones 40 = .ok (.iadd, 1) := by decide +kernel
theorem dc_M_ones_41 : decode bc_M_ones 41 = .ok (.goto 4, 3) := by decide +kernel
theorem dc_M_ones_44 : decode bc_M_ones 44 = .ok (.iload_n 2, 1) := by decide +kernel
theorem dc_M_ones_45 : decode bc_M_ones 45 = .ok (.ireturn, 1) := by decide +kernel
theorem dc_M_lowest_0 : decode bc_M_lowest 0 = .ok (.iload_n 1, 1) := by decide +kernel
theorem dc_M_lowest_1 : decode bc_M_lowest 1 = .ok (.invokestatic 44, 3) := by decide +kernel
theorem dc_M_lowest_4 : decode bc_M_lowest 4 = .ok (.ifCond .eq 15, 3) := by decide +kernel
theorem dc_M_lowest_7 : decode bc_M_lowest 7 = .ok (.aload_n 0, 1) := by decide +kernel
theorem dc_M_lowest_8 : decode bc_M_lowest 8 = .ok (.getfield 11, 3) := by decide +kernel
theorem dc_M_lowest_11 : decode bc_M_lowest 11 = .ok (.iload_n 1, 1) := by decide +kernel
theorem dc_M_lowest_12 : decode bc_M_lowest 12 = .ok (.aaload, 1) := by decide +kernel
theorem dc_M_lowest_13 : decode bc_M_lowest 13 = .ok (.invokevirtual 186, 3) := by decide +kernel
theorem dc_M_lowest_16 : decode bc_M_lowest 16 = .ok (.goto 4, 3) := by decide +kernel
theorem dc_M_lowest_19 : decode bc_M_lowest 19 = .ok (.iconst (-1), 1) := by decide +kernel
theorem dc_M_lowest_20 : decode bc_M_lowest 20 = .ok (.ireturn, 1) := by decide +kernel
theorem dc_M_word_0 : decode bc_M_word 0 = .ok (.iload_n 1, 1) := by decide +kernel
theorem dc_M_word_1 : decode bc_M_word 1 = .ok (.invokestatic 44, 3) := by decide +kernel
theorem dc_M_word_4 : decode bc_M_word 4 = .ok (.ifCond .eq 7, 3) := by decide +kernel
theorem dc_M_word_7 : decode bc_M_word 7 = .ok (.iload_n 2, 1) := by decide +kernel
theorem dc_M_word_8 : decode bc_M_word 8 = .ok (.ifCond .ge 5, 3) := by decide +kernel
theorem dc_M_word_11 : decode bc_M_word 11 = .ok (.iconst 0, 1) := by decide +kernel
theorem dc_M_word_12 : decode bc_M_word 12 = .ok (.ireturn, 1) := by decide +kernel
theorem dc_M_word_13 : decode bc_M_word 13 = .ok (.aload_n 0, 1) := by decide +kernel
theorem dc_M_word_14 : decode bc_M_word 14 = .ok (.iload_n 1, 1) := by decide +kernel
theorem dc_M_word_15 : decode bc_M_word 15 = .ok (.iload_n 2, 1) := by decide +kernel
theorem dc_M_word_16 : decode bc_M_word 16 = .ok (.aload_n 0, 1) := by decide +kernel
theorem dc_M_word_17 : decode bc_M_word 17 = .ok (.getfield 11, 3) := by decide +kernel
theorem dc_M_word_20 : decode bc_M_word 20 = .ok (.iload_n 1, 1) := by decide +kernel
theorem dc_M_word_21 : decode bc_M_word 21 = .ok (.aaload, 1) := by decide +kernel
theorem dc_M_word_22 : decode bc_M_word 22 = .ok (.invokevirtual 119, 3) := by decide +kernel
theorem dc_M_word_25 : decode bc_M_word 25 = .ok (.invokevirtual 131, 3) := by decide +kernel
theorem dc_M_word_28 : decode bc_M_word 28 = .ok (.l2i, 1) := by decide +kernel
theorem dc_M_word_29 : decode bc_M_word 29 = .ok (.ireturn, 1) := by decide +kernel
