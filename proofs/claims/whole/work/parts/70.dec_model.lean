theorem dc_R_init_0 : decode bc_R_init 0 = .ok (.aload_n 0, 1) := by decide +kernel
theorem dc_R_init_1 : decode bc_R_init 1 = .ok (.invokespecial 1, 3) := by decide +kernel
theorem dc_R_init_4 : decode bc_R_init 4 = .ok (.aload_n 0, 1) := by decide +kernel
theorem dc_R_init_5 : decode bc_R_init 5 = .ok (.ldc 7, 2) := by decide +kernel
theorem dc_R_init_7 : decode bc_R_init 7 = .ok (.newarray .int, 2) := by decide +kernel
theorem dc_R_init_9 : decode bc_R_init 9 = .ok (.putfield 8, 3) := by decide +kernel
theorem dc_R_init_12 : decode bc_R_init 12 = .ok (.aload_n 0, 1) := by decide +kernel
theorem dc_R_init_13 : decode bc_R_init 13 = .ok (.bipush 24, 2) := by decide +kernel
theorem dc_R_init_15 : decode bc_R_init 15 = .ok (.newarray .int, 2) := by decide +kernel
theorem dc_R_init_17 : decode bc_R_init 17 = .ok (.putfield 14, 3) := by decide +kernel
theorem dc_R_init_20 : decode bc_R_init 20 = .ok (.aload_n 0, 1) := by decide +kernel
theorem dc_R_init_21 : decode bc_R_init 21 = .ok (.bipush 16, 2) := by decide +kernel
theorem dc_R_init_23 : decode bc_R_init 23 = .ok (.newarray .boolean, 2) := by decide +kernel
theorem dc_R_init_25 : decode bc_R_init 25 = .ok (.putfield 17, 3) := by decide +kernel
theorem dc_R_init_28 : decode bc_R_init 28 = .ok (.return_, 1) := by decide +kernel
theorem dc_R_put_0 : decode bc_R_put 0 = .ok (.iload_n 1, 1) := by decide +kernel
theorem dc_R_put_1 : decode bc_R_put 1 = .ok (.invokestatic 67, 3) := by decide +kernel
theorem dc_R_put_4 : decode bc_R_put 4 = .ok (.ifCond .ne 5, 3) := by decide +kernel
theorem dc_R_put_7 : decode bc_R_put 7 = .ok (.iconst 0, 1) := by decide +kernel
theorem dc_R_put_8 : decode bc_R_put 8 = .ok (.ireturn, 1) := by decide +kernel
theorem dc_R_put_9 : decode bc_R_put 9 = .ok (.aload_n 0, 1) := by decide +kernel
theorem dc_R_put_10 : decode bc_R_put 10 = .ok (.bipush 16, 2) := by decide +kernel
theorem dc_R_put_12 : decode bc_R_put 12 = .ok (.lload_n 2, 1) := by decide +kernel
theorem dc_R_put_13 : decode bc_R_put 13 = .ok (.lconst 0, 1) := by decide +kernel
theorem dc_R_put_14 : decode bc_R_put 14 = .ok (.lcmp, 1) := by decide +kernel
theorem dc_R_put_15 : decode bc_R_put 15 = .ok (.ifCond .ge 8, 3) := by decide +kernel
theorem dc_R_put_18 : decode bc_R_put 18 = .ok (.lload_n 2, 1) := by decide +kernel
theorem dc_R_put_19 : decode bc_R_put 19 = .ok (.lneg, 1) := by decide +kernel
theorem dc_R_put_20 : decode bc_R_put 20 = .ok (.goto 4, 3) := by decide +kernel
theorem dc_R_put_23 : decode bc_R_put 23 = .ok (.lload_n 2, 1) := by decide +kernel
theorem dc_R_put_24 : decode bc_R_put 24 = .ok (.invokevirtual 71, 3) := by decide +kernel
theorem dc_R_put_27 : decode bc_R_put 27 = .ok (.aload_n 0, 1) := by decide +kernel
theorem dc_R_put_28 : decode bc_R_put 28 = .ok (.iload_n 1, 1) := by decide +kernel
theorem dc_R_put_29 : decode bc_R_put 29 = .ok (.bipush 16, 2) := by decide +kernel
theorem dc_R_put_31 : decode bc_R_put 31 = .ok (.lload_n 2, 1) := by decide +kernel
theorem dc_R_put_32 : decode bc_R_put 32 = .ok (.lconst 0, 1) := by decide +kernel
theorem dc_R_put_33 : decode bc_R_put 33 = .ok (.lcmp, 1) := by decide +kernel
theorem dc_R_put_34 : decode bc_R_put 34 = .ok (.ifCond .ge 7, 3) := by decide +kernel
theorem dc_R_put_37 : decode bc_R_put 37 = .ok (.iconst 1, 1) := by decide +kernel
theorem dc_R_put_38 : decode bc_R_put 38 = .ok (.goto 4, 3) := by decide +kernel
theorem dc_R_put_41 : decode bc_R_put 41 = .ok (.iconst 0, 1) := by decide +kernel
theorem dc_R_put_42 : decode bc_R_put 42 = .ok (.invokevirtual 75, 3) := by decide +kernel
theorem dc_R_put_45 : decode bc_R_put 45 = .ok (.ireturn, 1) := by decide +kernel
theorem dc_R_is_0 : decode bc_R_is 0 = .ok (.iload_n 0, 1) := by decide +kernel
theorem dc_R_is_1 : decode bc_R_is 1 = .ok (.ifCond .lt 13, 3) := by decide +kernel
theorem dc_R_is_4 : decode bc_R_is 4 = .ok (.iload_n 0, 1) := by decide +kernel
theorem dc_R_is_5 : decode bc_R_is 5 = .ok (.bipush 16, 2) := by decide +kernel
theorem dc_R_is_7 : decode bc_R_is 7 = .ok (.if_icmp .ge 7, 3) := by decide +kernel
theorem dc_R_is_10 : decode bc_R_is 10 = .ok (.iconst 1, 1) := by decide +kernel
theorem dc_R_is_11 : decode bc_R_is 11 = .ok (.goto 4, 3) := by decide +kernel
theorem dc_R_is_14 : decode bc_R_is 14 = .ok (.iconst 0, 1) := by decide +kernel
theorem dc_R_is_15 : decode bc_R_is 15 = .ok (.ireturn, 1) := by decide +kernel
theorem dc_R_set_0 : decode bc_R_set 0 = .ok (.iconst 0, 1) := by decide +kernel
theorem dc_R_set_1 : decode bc_R_set 1 = .ok (.istore 4, 2) := by decide +kernel
theorem dc_R_set_3 : decode bc_R_set 3 = .ok (.iload 4, 2) := by decide +kernel
theorem dc_R_set_5 : decode bc_R_set 5 = .ok (.iconst 4, 1) := by decide +kernel
theorem dc_R_set_6 : decode bc_R_set 6 = .ok (.if_icmp .ge 33, 3) := by decide +kernel
theorem dc_R_set_9 : decode bc_R_set 9 = .ok (.aload_n 0, 1) := by decide +kernel
theorem dc_R_set_10 : decode bc_R_set 10 = .ok (.getfield 8, 3) := by decide +kernel
theorem dc_R_set_13 : decode bc_R_set 13 = .ok (.iload_n 1, 1) := by decide +kernel
theorem dc_R_set_14 : decode bc_R_set 14 = .ok (.invokestatic 22, 3) := by decide +kernel
theorem dc_R_set_17 : decode bc_R_set 17 = .ok (.iload 4, 2) := by decide +kernel
theorem dc_R_set_19 : decode bc_R_set 19 = .ok (.iadd, 1) := by decide +kernel
theorem dc_R_set_20 : decode bc_R_set 20 = .ok (.lload_n 2, 1) := by decide +kernel
theorem dc_R_set_21 : decode bc_R_set 21 = .ok (.bipush 16, 2) := by decide +kernel
theorem dc_R_set_23 : decode bc_R_set 23 = .ok (.iload 4, 2) := by decide +kernel
theorem dc_R_set_25 : decode bc_R_set 25 = .ok (.imul, 1) := by decide +kernel
theorem dc_R_set_26 : decode bc_R_set 26 = .ok (.lshr, 1) := by decide +kernel
theorem dc_R_set_27 : decode bc_R_set 27 = .ok (.ldc2_w 26, 3) := by decide +kernel
theorem dc_R_set_30 : decode bc_R_set 30 = .ok (.land, 1) := by decide +kernel
theorem dc_R_set_31 : decode bc_R_set 31 = .ok (.l2i, 1) := by decide +kernel
theorem dc_R_set_32 : decode bc_R_set 32 = .ok (.iastore, 1) := by decide +kernel
theorem dc_R_set_33 : decode bc_R_set 33 = .ok (.iinc 4 1, 3) := by decide +kernel
theorem dc_R_set_36 : decode bc_R_set 36 = .ok (.goto (-33), 3) := by decide +kernel
theorem dc_R_set_39 : decode bc_R_set 39 = .ok (.aload_n 0, 1) := by decide +kernel
theorem dc_R_set_40 : decode bc_R_set 40 = .ok (.iload_n 1, 1) := by decide +kernel
theorem dc_R_set_41 : decode bc_R_set 41 = .ok (.iconst 4, 1) := by decide +kernel
theorem dc_R_set_42 : decode bc_R_set 42 = .ok (.invokevirtual 28, 3) := by decide +kernel
theorem dc_R_set_45 : decode bc_R_set 45 = .ok (.return_, 1) := by decide +kernel
theorem dc_R_at_0 : decode bc_R_at 0 = .ok (.iload_n 0, 1) := by decide +kernel
theorem dc_R_at_1 : decode bc_R_at 1 = .ok (.bipush 16, 2) := by decide +kernel
theorem dc_R_at_3 : decode bc_R_at 3 = .ok (.if_icmp .ge 11, 3) := by decide +kernel
theorem dc_R_at_6 : decode bc_R_at 6 = .ok (.sipush 4096, 3) := by decide +kernel
theorem dc_R_at_9 : decode bc_R_at 9 = .ok (.iload_n 0, 1) := by decide +kernel
theorem dc_R_at_10 : decode bc_R_at 10 = .ok (.imul, 1) := by decide +kernel
theorem dc_R_at_11 : decode bc_R_at 11 = .ok (.goto 14, 3) := by decide +kernel
theorem dc_R_at_14 : decode bc_R_at 14 = .ok (.ldc 21, 2) := by decide +kernel
theorem dc_R_at_16 : decode bc_R_at 16 = .ok (.sipush 8200, 3) := by decide +kernel
theorem dc_R_at_19 : decode bc_R_at 19 = .ok (.iload_n 0, 1) := by decide +kernel
theorem dc_R_at_20 : decode bc_R_at 20 = .ok (.bipush 16, 2) := by decide +kernel
theorem dc_R_at_22 : decode bc_R_at 22 = .ok (.isub, 1) := by decide +kernel
theorem dc_R_at_23 : decode bc_R_at 23 = .ok (.imul, 1) := by decide +kernel
theorem dc_R_at_24 : decode bc_R_at 24 = .ok (.iadd, 1) := by decide +kernel
theorem dc_R_at_25 : decode bc_R_at 25 = .ok (.ireturn, 1) := by decide +kernel
theorem dc_R_trim_0 : decode bc_R_trim 0 = .ok (.iload_n 2, 1) := by decide +kernel
theorem dc_R_trim_1 : decode bc_R_trim 1 = .ok (.istore_n 3, 1) := by decide +kernel
theorem dc_R_trim_2 : decode bc_R_trim 2 = .ok (.iload_n 3, 1) := by decide +kernel
theorem dc_R_trim_3 : decode bc_R_trim 3 = .ok (.ifCond .le 25, 3) := by decide +kernel
theorem dc_R_trim_6 : decode bc_R_trim 6 = .ok (.aload_n 0, 1) := by decide +kernel
theorem dc_R_trim_7 : decode bc_R_trim 7 = .ok (.getfield 8, 3) := by decide +kernel
theorem dc_R_trim_10 : decode bc_R_trim 10 = .ok (.iload_n 1, 1) := by decide +kernel
theorem dc_R_trim_11 : decode bc_R_trim 11 = .ok (.invokestatic 22, 3) := by decide +kernel
theorem dc_R_trim_14 : decode bc_R_trim 14 = .ok (.iload_n 3, 1) := by decide +kernel
theorem dc_R_trim_15 : decode bc_R_trim 15 = .ok (.iadd, 1) := by decide +kernel
theorem dc_R_trim_16 : decode bc_R_trim 16 = .ok (.iconst 1, 1) := by decide +kernel
theorem dc_R_trim_17 : decode bc_R_trim 17 = .ok (.isub, 1) := by decide +kernel
theorem dc_R_trim_18 : decode bc_R_trim 18 = .ok (.iaload, 1) := by decide +kernel
theorem dc_R_trim_19 : decode bc_R_trim 19 = .ok (.ifCond .ne 9, 3) := by decide +kernel
theorem dc_R_trim_22 : decode bc_R_trim 22 = .ok (.iinc 3 (-1), 3) := by decide +kernel
theorem dc_R_trim_25 : decode bc_R_trim 25 = .ok (.goto (-23), 3) := by decide +kernel
theorem dc_R_trim_28 : decode bc_R_trim 28 = .ok (.aload_n 0, 1) := by decide +kernel
theorem dc_R_trim_29 : decode bc_R_trim 29 = .ok (.getfield 14, 3) := by decide +kernel
theorem dc_R_trim_32 : decode bc_R_trim 32 = .ok (.iload_n 1, 1) := by decide +kernel
theorem dc_R_trim_33 : decode bc_R_trim 33 = .ok (.iload_n 3, 1) := by decide +kernel
theorem dc_R_trim_34 : decode bc_R_trim 34 = .ok (.iastore, 1) := by decide +kernel
theorem dc_R_trim_35 : decode bc_R_trim 35 = .ok (.return_, 1) := by decide +kernel
theorem dc_R_store_0 : decode bc_R_store 0 = .ok (.aload_n 0, 1) := by decide +kernel
theorem dc_R_store_1 : decode bc_R_store 1 = .ok (.getfield 14, 3) := by decide +kernel
theorem dc_R_store_4 : decode bc_R_store 4 = .ok (.iload_n 2, 1) := by decide +kernel
theorem dc_R_store_5 : decode bc_R_store 5 = .ok (.iaload, 1) := by decide +kernel
theorem dc_R_store_6 : decode bc_R_store 6 = .ok (.sipush 4096, 3) := by decide +kernel
theorem dc_R_store_9 : decode bc_R_store 9 = .ok (.if_icmp .le 5, 3) := by decide +kernel
theorem dc_R_store_12 : decode bc_R_store 12 = .ok (.iconst 0, 1) := by decide +kernel
theorem dc_R_store_13 : decode bc_R_store 13 = .ok (.ireturn, 1) := by decide +kernel
theorem dc_R_store_14 : decode bc_R_store 14 = .ok (.aload_n 0, 1) := by decide +kernel
theorem dc_R_store_15 : decode bc_R_store 15 = .ok (.iload_n 1, 1) := by decide +kernel
theorem dc_R_store_16 : decode bc_R_store 16 = .ok (.iload_n 2, 1) := by decide +kernel
theorem dc_R_store_17 : decode bc_R_store 17 = .ok (.invokevirtual 64, 3) := by decide +kernel
theorem dc_R_store_20 : decode bc_R_store 20 = .ok (.aload_n 0, 1) := by decide +kernel
theorem dc_R_store_21 : decode bc_R_store 21 = .ok (.getfield 17, 3) := by decide +kernel
theorem dc_R_store_24 : decode bc_R_store 24 = .ok (.iload_n 1, 1) := by decide +kernel
theorem dc_R_store_25 : decode bc_R_store 25 = .ok (.iload_n 3, 1) := by decide +kernel
theorem dc_R_store_26 : decode bc_R_store 26 = .ok (.ifCond .eq 16, 3) := by decide +kernel
theorem dc_R_store_29 : decode bc_R_store 29 = .ok (.aload_n 0, 1) := by decide +kernel
theorem dc_R_store_30 : decode bc_R_store 30 = .ok (.getfield 14, 3) := by decide +kernel
theorem dc_R_store_33 : decode bc_R_store 33 = .ok (.iload_n 2, 1) := by decide +kernel
theorem dc_R_store_34 : decode bc_R_store 34 = .ok (.iaload, 1) := by decide +kernel
theorem dc_R_store_35 : decode bc_R_store 35 = .ok (.ifCond .le 7, 3) := by decide +kernel
theorem dc_R_store_38 : decode bc_R_store 38 = .ok (.iconst 1, 1) := by decide +kernel
theorem dc_R_store_39 : decode bc_R_store 39 = .ok (.goto 4, 3) := by decide +kernel
theorem dc_R_store_42 : decode bc_R_store 42 = .ok (.iconst 0, 1) := by decide +kernel
theorem dc_R_store_43 : decode bc_R_store 43 = .ok (.bastore, 1) := by decide +kernel
theorem dc_R_store_44 : decode bc_R_store 44 = .ok (.iconst 1, 1) := by decide +kernel
theorem dc_R_store_45 : decode bc_R_store 45 = .ok (.ireturn, 1) := by decide +kernel
theorem dc_R_move_0 : decode bc_R_move 0 = .ok (.iconst 0, 1) := by decide +kernel
theorem dc_R_move_1 : decode bc_R_move 1 = .ok (.istore_n 3, 1) := by decide +kernel
theorem dc_R_move_2 : decode bc_R_move 2 = .ok (.iload_n 3, 1) := by decide +kernel
theorem dc_R_move_3 : decode bc_R_move 3 = .ok (.aload_n 0, 1) := by decide +kernel
theorem dc_R_move_4 : decode bc_R_move 4 = .ok (.getfield 14, 3) := by decide +kernel
theorem dc_R_move_7 : decode bc_R_move 7 = .ok (.iload_n 2, 1) := by decide +kernel
theorem dc_R_move_8 : decode bc_R_move 8 = .ok (.iaload, 1) := by decide +kernel
theorem dc_R_move_9 : decode bc_R_move 9 = .ok (.if_icmp .ge 31, 3) := by decide +kernel
theorem dc_R_move_12 : decode bc_R_move 12 = .ok (.aload_n 0, 1) := by decide +kernel
theorem dc_R_move_13 : decode bc_R_move 13 = .ok (.getfield 8, 3) := by decide +kernel
theorem dc_R_move_16 : decode bc_R_move 16 = .ok (.iload_n 1, 1) := by decide +kernel
theorem dc_R_move_17 : decode bc_R_move 17 = .ok (.invokestatic 22, 3) := by decide +kernel
theorem dc_R_move_20 : decode bc_R_move 20 = .ok (.iload_n 3, 1) := by decide +kernel
theorem dc_R_move_21 : decode bc_R_move 21 = .ok (.iadd, 1) := by decide +kernel
theorem dc_R_move_22 : decode bc_R_move 22 = .ok (.aload_n 0, 1) := by decide +kernel
theorem dc_R_move_23 : decode bc_R_move 23 = .ok (.getfield 8, 3) := by decide +kernel
theorem dc_R_move_26 : decode bc_R_move 26 = .ok (.iload_n 2, 1) := by decide +kernel
theorem dc_R_move_27 : decode bc_R_move 27 = .ok (.invokestatic 22, 3) := by decide +kernel
theorem dc_R_move_30 : decode bc_R_move 30 = .ok (.iload_n 3, 1) := by decide +kernel
theorem dc_R_move_31 : decode bc_R_move 31 = .ok (.iadd, 1) := by decide +kernel
theorem dc_R_move_32 : decode bc_R_move 32 = .ok (.iaload, 1) := by decide +kernel
theorem dc_R_move_33 : decode bc_R_move 33 = .ok (.iastore, 1) := by decide +kernel
theorem dc_R_move_34 : decode bc_R_move 34 = .ok (.iinc 3 1, 3) := by decide +kernel
theorem dc_R_move_37 : decode bc_R_move 37 = .ok (.goto (-35), 3) := by decide +kernel
theorem dc_R_move_40 : decode bc_R_move 40 = .ok (.aload_n 0, 1) := by decide +kernel
theorem dc_R_move_41 : decode bc_R_move 41 = .ok (.getfield 14, 3) := by decide +kernel
theorem dc_R_move_44 : decode bc_R_move 44 = .ok (.iload_n 1, 1) := by decide +kernel
theorem dc_R_move_45 : decode bc_R_move 45 = .ok (.aload_n 0, 1) := by decide +kernel
theorem dc_R_move_46 : decode bc_R_move 46 = .ok (.getfield 14, 3) := by decide +kernel
theorem dc_R_move_49 : decode bc_R_move 49 = .ok (.iload_n 2, 1) := by decide +kernel
theorem dc_R_move_50 : decode bc_R_move 50 = .ok (.iaload, 1) := by decide +kernel
theorem dc_R_move_51 : decode bc_R_move 51 = .ok (.iastore, 1) := by decide +kernel
theorem dc_R_move_52 : decode bc_R_move 52 = .ok (.return_, 1) := by decide +kernel
theorem dc_R_push_0 : decode bc_R_push 0 = .ok (.iload_n 1, 1) := by decide +kernel
theorem dc_R_push_1 : decode bc_R_push 1 = .ok (.invokestatic 67, 3) := by decide +kernel
theorem dc_R_push_4 : decode bc_R_push 4 = .ok (.ifCond .ne 5, 3) := by decide +kernel
theorem dc_R_push_7 : decode bc_R_push 7 = .ok (.iconst 0, 1) := by decide +kernel
theorem dc_R_push_8 : decode bc_R_push 8 = .ok (.ireturn, 1) := by decide +kernel
theorem dc_R_push_9 : decode bc_R_push 9 = .ok (.aload_n 0, 1) := by decide +kernel
theorem dc_R_push_10 : decode bc_R_push 10 = .ok (.bipush 16, 2) := by decide +kernel
theorem dc_R_push_12 : decode bc_R_push 12 = .ok (.lload_n 2, 1) := by decide +kernel
theorem dc_R_push_13 : decode bc_R_push 13 = .ok (.invokevirtual 71, 3) := by decide +kernel
theorem dc_R_push_16 : decode bc_R_push 16 = .ok (.aload_n 0, 1) := by decide +kernel
theorem dc_R_push_17 : decode bc_R_push 17 = .ok (.getfield 14, 3) := by decide +kernel
theorem dc_R_push_20 : decode bc_R_push 20 = .ok (.bipush 16, 2) := by decide +kernel
theorem dc_R_push_22 : decode bc_R_push 22 = .ok (.iaload, 1) := by decide +kernel
theorem dc_R_push_23 : decode bc_R_push 23 = .ok (.istore 4, 2) := by decide +kernel
theorem dc_R_push_25 : decode bc_R_push 25 = .ok (.iload 4, 2) := by decide +kernel
theorem dc_R_push_27 : decode bc_R_push 27 = .ok (.iconst 4, 1) := by decide +kernel
theorem dc_R_push_28 : decode bc_R_push 28 = .ok (.if_icmp .ge 23, 3) := by decide +kernel
theorem dc_R_push_31 : decode bc_R_push 31 = .ok (.aload_n 0, 1) := by decide +kernel
theorem dc_R_push_32 : decode bc_R_push 32 = .ok (.getfield 8, 3) := by decide +kernel
theorem dc_R_push_35 : decode bc_R_push 35 = .ok (.bipush 16, 2) := by decide +kernel
theorem dc_R_push_37 : decode bc_R_push 37 = .ok (.invokestatic 22, 3) := by decide +kernel
theorem dc_R_push_40 : decode bc_R_push 40 = .ok (.iload 4, 2) := by decide +kernel
theorem dc_R_push_42 : decode bc_R_push 42 = .ok (.iadd, 1) := by decide +kernel
theorem dc_R_push_43 : decode bc_R_push 43 = .ok (.iconst 0, 1) := by decide +kernel
theorem dc_R_push_44 : decode bc_R_push 44 = .ok (.iastore, 1) := by decide +kernel
theorem dc_R_push_45 : decode bc_R_push 45 = .ok (.iinc 4 1, 3) := by decide +kernel
theorem dc_R_push_48 : decode bc_R_push 48 = .ok (.goto (-23), 3) := by decide +kernel
theorem dc_R_push_51 : decode bc_R_push 51 = .ok (.iconst 0, 1) := by decide +kernel
theorem dc_R_push_52 : decode bc_R_push 52 = .ok (.istore 4, 2) := by decide +kernel
theorem dc_R_push_54 : decode bc_R_push 54 = .ok (.iload 4, 2) := by decide +kernel
theorem dc_R_push_56 : decode bc_R_push 56 = .ok (.aload_n 0, 1) := by decide +kernel
theorem dc_R_push_57 : decode bc_R_push 57 = .ok (.getfield 14, 3) := by decide +kernel
theorem dc_R_push_60 : decode bc_R_push 60 = .ok (.iload_n 1, 1) := by decide +kernel
theorem dc_R_push_61 : decode bc_R_push 61 = .ok (.iaload, 1) := by decide +kernel
theorem dc_R_push_62 : decode bc_R_push 62 = .ok (.if_icmp .ge 36, 3) := by decide +kernel
theorem dc_R_push_65 : decode bc_R_push 65 = .ok (.aload_n 0, 1) := by decide +kernel
theorem dc_R_push_66 : decode bc_R_push 66 = .ok (.getfield 8, 3) := by decide +kernel
theorem dc_R_push_69 : decode bc_R_push 69 = .ok (.bipush 16, 2) := by decide +kernel
theorem dc_R_push_71 : decode bc_R_push 71 = .ok (.invokestatic 22, 3) := by decide +kernel
theorem dc_R_push_74 : decode bc_R_push 74 = .ok (.iconst 4, 1) := by decide +kernel
theorem dc_R_push_75 : decode bc_R_push 75 = .ok (.iadd, 1) := by decide +kernel
theorem dc_R_push_76 : decode bc_R_push 76 = .ok (.iload 4, 2) := by decide +kernel
theorem dc_R_push_78 : decode bc_R_push 78 = .ok (.iadd, 1) := by decide +kernel
theorem dc_R_push_79 : decode bc_R_push 79 = .ok (.aload_n 0, 1) := by decide +kernel
theorem dc_R_push_80 : decode bc_R_push 80 = .ok (.getfield 8, 3) := by decide +kernel
theorem dc_R_push_83 : decode bc_R_push 83 = .ok (.iload_n 1, 1) := by decide +kernel
theorem dc_R_push_84 : decode bc_R_push 84 = .ok (.invokestatic 22, 3) := by decide +kernel
theorem dc_R_push_87 : decode bc_R_push 87 = .ok (.iload 4, 2) := by decide +kernel
theorem dc_R_push_89 : decode bc_R_push 89 = .ok (.iadd, 1) := by decide +kernel
theorem dc_R_push_90 : decode bc_R_push 90 = .ok (.iaload, 1) := by decide +kernel
theorem dc_R_push_91 : decode bc_R_push 91 = .ok (.iastore, 1) := by decide +kernel
theorem dc_R_push_92 : decode bc_R_push 92 = .ok (.iinc 4 1, 3) := by decide +kernel
theorem dc_R_push_95 : decode bc_R_push 95 = .ok (.goto (-41), 3) := by decide +kernel
theorem dc_R_push_98 : decode bc_R_push 98 = .ok (.aload_n 0, 1) := by decide +kernel
theorem dc_R_push_99 : decode bc_R_push 99 = .ok (.bipush 16, 2) := by decide +kernel
theorem dc_R_push_101 : decode bc_R_push 101 = .ok (.aload_n 0, 1) := by decide +kernel
theorem dc_R_push_102 : decode bc_R_push 102 = .ok (.getfield 14, 3) := by decide +kernel
theorem dc_R_push_105 : decode bc_R_push 105 = .ok (.iload_n 1, 1) := by decide +kernel
theorem dc_R_push_106 : decode bc_R_push 106 = .ok (.iaload, 1) := by decide +kernel
theorem dc_R_push_107 : decode bc_R_push 107 = .ok (.iconst 4, 1) := by decide +kernel
theorem dc_R_push_108 : decode bc_R_push 108 = .ok (.iadd, 1) := by decide +kernel
theorem dc_R_push_109 : decode bc_R_push 109 = .ok (.invokevirtual 28, 3) := by decide +kernel
theorem dc_R_push_112 : decode bc_R_push 112 = .ok (.aload_n 0, 1) := by decide +kernel
theorem dc_R_push_113 : decode bc_R_push 113 = .ok (.iload_n 1, 1) := by decide +kernel
theorem dc_R_push_114 : decode bc_R_push 114 = .ok (.bipush 16, 2) := by decide +kernel
theorem dc_R_push_116 : decode bc_R_push 116 = .ok (.aload_n 0, 1) := by decide +kernel
theorem dc_R_push_117 : decode bc_R_push 117 = .ok (.getfield 17, 3) := by decide +kernel
theorem dc_R_push_120 : decode bc_R_push 120 = .ok (.iload_n 1, 1) := by decide +kernel
theorem dc_R_push_121 : decode bc_R_push 121 = .ok (.baload, 1) := by decide +kernel
theorem dc_R_push_122 : decode bc_R_push 122 = .ok (.invokevirtual 75, 3) := by decide +kernel
theorem dc_R_push_125 : decode bc_R_push 125 = .ok (.ireturn, 1) := by decide +kernel
theorem dc_R_spread_0 : decode bc_R_spread 0 = .ok (.iload_n 1, 1) := by decide +kernel
theorem dc_R_spread_1 : decode bc_R_spread 1 = .ok (.invokestatic 67, 3) := by decide +kernel
theorem dc_R_spread_4 : decode bc_R_spread 4 = .ok (.ifCond .eq 16, 3) := by decide +kernel
theorem dc_R_spread_7 : decode bc_R_spread 7 = .ok (.iload 4, 2) := by decide +kernel
theorem dc_R_spread_9 : decode bc_R_spread 9 = .ok (.ifCond .lt 11, 3) := by decide +kernel
theorem dc_R_spread_12 : decode bc_R_spread 12 = .ok (.iload 4, 2) := by decide +kernel
theorem dc_R_spread_14 : decode bc_R_spread 14 = .ok (.sipush 1024, 3) := by decide +kernel
theorem dc_R_spread_17 : decode bc_R_spread 17 = .ok (.if_icmp .le 5, 3) := by decide +kernel
theorem dc_R_spread_20 : decode bc_R_spread 20 = .ok (.iconst 0, 1) := by decide +kernel
theorem dc_R_spread_21 : decode bc_R_spread 21 = .ok (.ireturn, 1) := by decide +kernel
theorem dc_R_spread_22 : decode bc_R_spread 22 = .ok (.iconst 0, 1) := by decide +kernel
theorem dc_R_spread_23 : decode bc_R_spread 23 = .ok (.istore 5, 2) := by decide +kernel
theorem dc_R_spread_25 : decode bc_R_spread 25 = .ok (.iload 5, 2) := by decide +kernel
theorem dc_R_spread_27 : decode bc_R_spread 27 = .ok (.iconst 4, 1) := by decide +kernel
theorem dc_R_spread_28 : decode bc_R_spread 28 = .ok (.iload 4, 2) := by decide +kernel
theorem dc_R_spread_30 : decode bc_R_spread 30 = .ok (.imul, 1) := by decide +kernel
theorem dc_R_spread_31 : decode bc_R_spread 31 = .ok (.if_icmp .ge 36, 3) := by decide +kernel
theorem dc_R_spread_34 : decode bc_R_spread 34 = .ok (.aload_n 0, 1) := by decide +kernel
theorem dc_R_spread_35 : decode bc_R_spread 35 = .ok (.getfield 8, 3) := by decide +kernel
theorem dc_R_spread_38 : decode bc_R_spread 38 = .ok (.bipush 16, 2) := by decide +kernel
theorem dc_R_spread_40 : decode bc_R_spread 40 = .ok (.invokestatic 22, 3) := by decide +kernel
theorem dc_R_spread_43 : decode bc_R_spread 43 = .ok (.iload 5, 2) := by decide +kernel
theorem dc_R_spread_45 : decode bc_R_spread 45 = .ok (.iadd, 1) := by decide +kernel
theorem dc_R_spread_46 : decode bc_R_spread 46 = .ok (.lload_n 2, 1) := by decide +kernel
theorem dc_R_spread_47 : decode bc_R_spread 47 = .ok (.bipush 16, 2) := by decide +kernel
theorem dc_R_spread_49 : decode bc_R_spread 49 = .ok (.iload 5, 2) := by decide +kernel
theorem dc_R_spread_51 : decode bc_R_spread 51 = .ok (.iconst 4, 1) := by decide +kernel
theorem dc_R_spread_52 : decode bc_R_spread 52 = .ok (.irem, 1) := by decide +kernel
theorem dc_R_spread_53 : decode bc_R_spread 53 = .ok (.imul, 1) := by decide +kernel
theorem dc_R_spread_54 : decode bc_R_spread 54 = .ok (.lshr, 1) := by decide +kernel
theorem dc_R_spread_55 : decode bc_R_spread 55 = .ok (.ldc2_w 26, 3) := by decide +kernel
theorem dc_R_spread_58 : decode bc_R_spread 58 = .ok (.land, 1) := by decide +kernel
theorem dc_R_spread_59 : decode bc_R_spread 59 = .ok (.l2i, 1) := by decide +kernel
theorem dc_R_spread_60 : decode bc_R_spread 60 = .ok (.iastore, 1) := by decide +kernel
theorem dc_R_spread_61 : decode bc_R_spread 61 = .ok (.iinc 5 1, 3) := by decide +kernel
theorem dc_R_spread_64 : decode bc_R_spread 64 = .ok (.goto (-39), 3) := by decide +kernel
theorem dc_R_spread_67 : decode bc_R_spread 67 = .ok (.aload_n 0, 1) := by decide +kernel
theorem dc_R_spread_68 : decode bc_R_spread 68 = .ok (.bipush 16, 2) := by decide +kernel
theorem dc_R_spread_70 : decode bc_R_spread 70 = .ok (.iconst 4, 1) := by decide +kernel
theorem dc_R_spread_71 : decode bc_R_spread 71 = .ok (.iload 4, 2) := by decide +kernel
theorem dc_R_spread_73 : decode bc_R_spread 73 = .ok (.imul, 1) := by decide +kernel
theorem dc_R_spread_74 : decode bc_R_spread 74 = .ok (.invokevirtual 28, 3) := by decide +kernel
theorem dc_R_spread_77 : decode bc_R_spread 77 = .ok (.aload_n 0, 1) := by decide +kernel
theorem dc_R_spread_78 : decode bc_R_spread 78 = .ok (.iload_n 1, 1) := by decide +kernel
theorem dc_R_spread_79 : decode bc_R_spread 79 = .ok (.bipush 16, 2) := by decide +kernel
theorem dc_R_spread_81 : decode bc_R_spread 81 = .ok (.iconst 0, 1) := by decide +kernel
theorem dc_R_spread_82 : decode bc_R_spread 82 = .ok (.invokevirtual 75, 3) := by decide +kernel
theorem dc_R_spread_85 : decode bc_R_spread 85 = .ok (.ireturn, 1) := by decide +kernel
theorem dc_R_negate_0 : decode bc_R_negate 0 = .ok (.iload_n 1, 1) := by decide +kernel
theorem dc_R_negate_1 : decode bc_R_negate 1 = .ok (.invokestatic 67, 3) := by decide +kernel
theorem dc_R_negate_4 : decode bc_R_negate 4 = .ok (.ifCond .eq 10, 3) := by decide +kernel
theorem dc_R_negate_7 : decode bc_R_negate 7 = .ok (.iload_n 2, 1) := by decide +kernel
theorem dc_R_negate_8 : decode bc_R_negate 8 = .ok (.invokestatic 67, 3) := by decide +kernel
theorem dc_R_negate_11 : decode bc_R_negate 11 = .ok (.ifCond .ne 5, 3) := by decide +kernel
theorem dc_R_negate_14 : decode bc_R_negate 14 = .ok (.iconst 0, 1) := by decide +kernel
theorem dc_R_negate_15 : decode bc_R_negate 15 = .ok (.ireturn, 1) := by decide +kernel
theorem dc_R_negate_16 : decode bc_R_negate 16 = .ok (.aload_n 0, 1) := by decide +kernel
theorem dc_R_negate_17 : decode bc_R_negate 17 = .ok (.bipush 16, 2) := by decide +kernel
theorem dc_R_negate_19 : decode bc_R_negate 19 = .ok (.iload_n 2, 1) := by decide +kernel
theorem dc_R_negate_20 : decode bc_R_negate 20 = .ok (.invokevirtual 64, 3) := by decide +kernel
theorem dc_R_negate_23 : decode bc_R_negate 23 = .ok (.aload_n 0, 1) := by decide +kernel
theorem dc_R_negate_24 : decode bc_R_negate 24 = .ok (.iload_n 1, 1) := by decide +kernel
theorem dc_R_negate_25 : decode bc_R_negate 25 = .ok (.bipush 16, 2) := by decide +kernel
theorem dc_R_negate_27 : decode bc_R_negate 27 = .ok (.aload_n 0, 1) := by decide +kernel
theorem dc_R_negate_28 : decode bc_R_negate 28 = .ok (.getfield 17, 3) := by decide +kernel
theorem dc_R_negate_31 : decode bc_R_negate 31 = .ok (.iload_n 2, 1) := by decide +kernel
theorem dc_R_negate_32 : decode bc_R_negate 32 = .ok (.baload, 1) := by decide +kernel
theorem dc_R_negate_33 : decode bc_R_negate 33 = .ok (.ifCond .ne 7, 3) := by decide +kernel
theorem dc_R_negate_36 : decode bc_R_negate 36 = .ok (.iconst 1, 1) := by decide +kernel
theorem dc_R_negate_37 : decode bc_R_negate 37 = .ok (.goto 4, 3) := by decide +kernel
theorem dc_R_negate_40 : decode bc_R_negate 40 = .ok (.iconst 0, 1) := by decide +kernel
theorem dc_R_negate_41 : decode bc_R_negate 41 = .ok (.invokevirtual 75, 3) := by decide +kernel
theorem dc_R_negate_44 : decode bc_R_negate 44 = .ok (.ireturn, 1) := by decide +kernel
theorem dc_R_add_0 : decode bc_R_add 0 = .ok (.iload_n 1, 1) := by decide +kernel
theorem dc_R_add_1 : decode bc_R_add 1 = .ok (.invokestatic 67, 3) := by decide +kernel
theorem dc_R_add_4 : decode bc_R_add 4 = .ok (.ifCond .eq 43, 3) := by decide +kernel
theorem dc_R_add_7 : decode bc_R_add 7 = .ok (.iload_n 2, 1) := by decide +kernel
theorem dc_R_add_8 : decode bc_R_add 8 = .ok (.invokestatic 67, 3) := by decide +kernel
theorem dc_R_add_11 : decode bc_R_add 11 = .ok (.ifCond .eq 36, 3) := by decide +kernel
theorem dc_R_add_14 : decode bc_R_add 14 = .ok (.iload_n 3, 1) := by decide +kernel
theorem dc_R_add_15 : decode bc_R_add 15 = .ok (.invokestatic 67, 3) := by decide +kernel
theorem dc_R_add_18 : decode bc_R_add 18 = .ok (.ifCond .eq 29, 3) := by decide +kernel
theorem dc_R_add_21 : decode bc_R_add 21 = .ok (.aload_n 0, 1) := by decide +kernel
theorem dc_R_add_22 : decode bc_R_add 22 = .ok (.iload_n 1, 1) := by decide +kernel
theorem dc_R_add_23 : decode bc_R_add 23 = .ok (.iload_n 2, 1) := by decide +kernel
theorem dc_R_add_24 : decode bc_R_add 24 = .ok (.aload_n 0, 1) := by decide +kernel
theorem dc_R_add_25 : decode bc_R_add 25 = .ok (.getfield 17, 3) := by decide +kernel
theorem dc_R_add_28 : decode bc_R_add 28 = .ok (.iload_n 2, 1) := by decide +kernel
theorem dc_R_add_29 : decode bc_R_add 29 = .ok (.baload, 1) := by decide +kernel
theorem dc_R_add_30 : decode bc_R_add 30 = .ok (.iload_n 3, 1) := by decide +kernel
theorem dc_R_add_31 : decode bc_R_add 31 = .ok (.aload_n 0, 1) := by decide +kernel
theorem dc_R_add_32 : decode bc_R_add 32 = .ok (.getfield 17, 3) := by decide +kernel
theorem dc_R_add_35 : decode bc_R_add 35 = .ok (.iload_n 3, 1) := by decide +kernel
theorem dc_R_add_36 : decode bc_R_add 36 = .ok (.baload, 1) := by decide +kernel
theorem dc_R_add_37 : decode bc_R_add 37 = .ok (.invokevirtual 82, 3) := by decide +kernel
theorem dc_R_add_40 : decode bc_R_add 40 = .ok (.ifCond .eq 7, 3) := by decide +kernel
theorem dc_R_add_43 : decode bc_R_add 43 = .ok (.iconst 1, 1) := by decide +kernel
theorem dc_R_add_44 : decode bc_R_add 44 = .ok (.goto 4, 3) := by decide +kernel
theorem dc_R_add_47 : decode bc_R_add 47 = .ok (.iconst 0, 1) := by decide +kernel
theorem dc_R_add_48 : decode bc_R_add 48 = .ok (.ireturn, 1) := by decide +kernel
theorem dc_R_added_0 : decode bc_R_added 0 = .ok (.aload_n 0, 1) := by decide +kernel
theorem dc_R_added_1 : decode bc_R_added 1 = .ok (.iload_n 2, 1) := by decide +kernel
theorem dc_R_added_2 : decode bc_R_added 2 = .ok (.iload 4, 2) := by decide +kernel
theorem dc_R_added_4 : decode bc_R_added 4 = .ok (.invokevirtual 54, 3) := by decide +kernel
theorem dc_R_added_7 : decode bc_R_added 7 = .ok (.ifCond .ge 7, 3) := by decide +kernel
theorem dc_R_added_10 : decode bc_R_added 10 = .ok (.iconst 1, 1) := by decide +kernel
theorem dc_R_added_11 : decode bc_R_added 11 = .ok (.goto 4, 3) := by decide +kernel
theorem dc_R_added_14 : decode bc_R_added 14 = .ok (.iconst 0, 1) := by decide +kernel
theorem dc_R_added_15 : decode bc_R_added 15 = .ok (.istore 6, 2) := by decide +kernel
theorem dc_R_added_17 : decode bc_R_added 17 = .ok (.iload_n 3, 1) := by decide +kernel
theorem dc_R_added_18 : decode bc_R_added 18 = .ok (.iload 5, 2) := by decide +kernel
theorem dc_R_added_20 : decode bc_R_added 20 = .ok (.if_icmp .ne 15, 3) := by decide +kernel
theorem dc_R_added_23 : decode bc_R_added 23 = .ok (.aload_n 0, 1) := by decide +kernel
theorem dc_R_added_24 : decode bc_R_added 24 = .ok (.bipush 21, 2) := by decide +kernel
theorem dc_R_added_26 : decode bc_R_added 26 = .ok (.iload_n 2, 1) := by decide +kernel
theorem dc_R_added_27 : decode bc_R_added 27 = .ok (.iload 4, 2) := by decide +kernel
theorem dc_R_added_29 : decode bc_R_added 29 = .ok (.invokevirtual 79, 3) := by decide +kernel
theorem dc_R_added_32 : decode bc_R_added 32 = .ok (.goto 29, 3) := by decide +kernel
theorem dc_R_added_35 : decode bc_R_added 35 = .ok (.iload 6, 2) := by decide +kernel
theorem dc_R_added_37 : decode bc_R_added 37 = .ok (.ifCond .eq 15, 3) := by decide +kernel
theorem dc_R_added_40 : decode bc_R_added 40 = .ok (.aload_n 0, 1) := by decide +kernel
theorem dc_R_added_41 : decode bc_R_added 41 = .ok (.bipush 21, 2) := by decide +kernel
theorem dc_R_added_43 : decode bc_R_added 43 = .ok (.iload 4, 2) := by decide +kernel
theorem dc_R_added_45 : decode bc_R_added 45 = .ok (.iload_n 2, 1) := by decide +kernel
theorem dc_R_added_46 : decode bc_R_added 46 = .ok (.invokevirtual 57, 3) := by decide +kernel
theorem dc_R_added_49 : decode bc_R_added 49 = .ok (.goto 12, 3) := by decide +kernel
theorem dc_R_added_52 : decode bc_R_added 52 = .ok (.aload_n 0, 1) := by decide +kernel
theorem dc_R_added_53 : decode bc_R_added 53 = .ok (.bipush 21, 2) := by decide +kernel
theorem dc_R_added_55 : decode bc_R_added 55 = .ok (.iload_n 2, 1) := by decide +kernel
theorem dc_R_added_56 : decode bc_R_added 56 = .ok (.iload 4, 2) := by decide +kernel
theorem dc_R_added_58 : decode bc_R_added 58 = .ok (.invokevirtual 57, 3) := by decide +kernel
theorem dc_R_added_61 : decode bc_R_added 61 = .ok (.aload_n 0, 1) := by decide +kernel
theorem dc_R_added_62 : decode bc_R_added 62 = .ok (.iload_n 1, 1) := by decide +kernel
theorem dc_R_added_63 : decode bc_R_added 63 = .ok (.bipush 21, 2) := by decide +kernel
theorem dc_R_added_65 : decode bc_R_added 65 = .ok (.iload_n 3, 1) := by decide +kernel
theorem dc_R_added_66 : decode bc_R_added 66 = .ok (.iload 5, 2) := by decide +kernel
theorem dc_R_added_68 : decode bc_R_added 68 = .ok (.if_icmp .eq 8, 3) := by decide +kernel
theorem dc_R_added_71 : decode bc_R_added 71 = .ok (.iload 6, 2) := by decide +kernel
theorem dc_R_added_73 : decode bc_R_added 73 = .ok (.ifCond .ne 7, 3) := by decide +kernel
theorem dc_R_added_76 : decode bc_R_added 76 = .ok (.iload_n 3, 1) := by decide +kernel
theorem dc_R_added_77 : decode bc_R_added 77 = .ok (.goto 5, 3) := by decide +kernel
theorem dc_R_added_80 : decode bc_R_added 80 = .ok (.iload 5, 2) := by decide +kernel
theorem dc_R_added_82 : decode bc_R_added 82 = .ok (.invokevirtual 75, 3) := by decide +kernel
theorem dc_R_added_85 : decode bc_R_added 85 = .ok (.ireturn, 1) := by decide +kernel
theorem dc_R_compareRows_0 : decode bc_R_compareRows 0 = .ok (.aload_n 0, 1) := by decide +kernel
theorem dc_R_compareRows_1 : decode bc_R_compareRows 1 = .ok (.getfield 14, 3) := by decide +kernel
theorem dc_R_compareRows_4 : decode bc_R_compareRows 4 = .ok (.iload_n 1, 1) := by decide +kernel
theorem dc_R_compareRows_5 : decode bc_R_compareRows 5 = .ok (.iaload, 1) := by decide +kernel
theorem dc_R_compareRows_6 : decode bc_R_compareRows 6 = .ok (.aload_n 0, 1) := by decide +kernel
theorem dc_R_compareRows_7 : decode bc_R_compareRows 7 = .ok (.getfield 14, 3) := by decide +kernel
theorem dc_R_compareRows_10 : decode bc_R_compareRows 10 = .ok (.iload_n 2, 1) := by decide +kernel
theorem dc_R_compareRows_11 : decode bc_R_compareRows 11 = .ok (.iaload, 1) := by decide +kernel
theorem dc_R_compareRows_12 : decode bc_R_compareRows 12 = .ok (.if_icmp .eq 24, 3) := by decide +kernel
theorem dc_R_compareRows_15 : decode bc_R_compareRows 15 = .ok (.aload_n 0, 1) := by decide +kernel
theorem dc_R_compareRows_16 : decode bc_R_compareRows 16 = .ok (.getfield 14, 3) := by decide +kernel
theorem dc_R_compareRows_19 : decode bc_R_compareRows 19 = .ok (.iload_n 1, 1) := by decide +kernel
theorem dc_R_compareRows_20 : decode bc_R_compareRows 20 = .ok (.iaload, 1) := by decide +kernel
theorem dc_R_compareRows_21 : decode bc_R_compareRows 21 = .ok (.aload_n 0, 1) := by decide +kernel
theorem dc_R_compareRows_22 : decode bc_R_compareRows 22 = .ok (.getfield 14, 3) := by decide +kernel
theorem dc_R_compareRows_25 : decode bc_R_compareRows 25 = .ok (.iload_n 2, 1) := by decide +kernel
theorem dc_R_compareRows_26 : decode bc_R_compareRows 26 = .ok (.iaload, 1) := by decide +kernel
theorem dc_R_compareRows_27 : decode bc_R_compareRows 27 = .ok (.if_icmp .ge 7, 3) := by decide +kernel
theorem dc_R_compareRows_30 : decode bc_R_compareRows 30 = .ok (.iconst (-1), 1) := by decide +kernel
theorem dc_R_compareRows_31 : decode bc_R_compareRows 31 = .ok (.goto 4, 3) := by decide +kernel
theorem dc_R_compareRows_34 : decode bc_R_compareRows 34 = .ok (.iconst 1, 1) := by decide +kernel
theorem dc_R_compareRows_35 : decode bc_R_compareRows 35 = .ok (.ireturn, 1) := by decide +kernel
theorem dc_R_compareRows_36 : decode bc_R_compareRows 36 = .ok (.aload_n 0, 1) := by decide +kernel
theorem dc_R_compareRows_37 : decode bc_R_compareRows 37 = .ok (.getfield 14, 3) := by decide +kernel
theorem dc_R_compareRows_40 : decode bc_R_compareRows 40 = .ok (.iload_n 1, 1) := by decide +kernel
theorem dc_R_compareRows_41 : decode bc_R_compareRows 41 = .ok (.iaload, 1) := by decide +kernel
theorem dc_R_compareRows_42 : decode bc_R_compareRows 42 = .ok (.iconst 1, 1) := by decide +kernel
theorem dc_R_compareRows_43 : decode bc_R_compareRows 43 = .ok (.isub, 1) := by decide +kernel
theorem dc_R_compareRows_44 : decode bc_R_compareRows 44 = .ok (.istore_n 3, 1) := by decide +kernel
theorem dc_R_compareRows_45 : decode bc_R_compareRows 45 = .ok (.iload_n 3, 1) := by decide +kernel
theorem dc_R_compareRows_46 : decode bc_R_compareRows 46 = .ok (.ifCond .lt 55, 3) := by decide +kernel
theorem dc_R_compareRows_49 : decode bc_R_compareRows 49 = .ok (.aload_n 0, 1) := by decide +kernel
theorem dc_R_compareRows_50 : decode bc_R_compareRows 50 = .ok (.getfield 8, 3) := by decide +kernel
theorem dc_R_compareRows_53 : decode bc_R_compareRows 53 = .ok (.iload_n 1, 1) := by decide +kernel
theorem dc_R_compareRows_54 : decode bc_R_compareRows 54 = .ok (.invokestatic 22, 3) := by decide +kernel
theorem dc_R_compareRows_57 : decode bc_R_compareRows 57 = .ok (.iload_n 3, 1) := by decide +kernel
theorem dc_R_compareRows_58 : decode bc_R_compareRows 58 = .ok (.iadd, 1) := by decide +kernel
theorem dc_R_compareRows_59 : decode bc_R_compareRows 59 = .ok (.iaload, 1) := by decide +kernel
theorem dc_R_compareRows_60 : decode bc_R_compareRows 60 = .ok (.istore 4, 2) := by decide +kernel
theorem dc_R_compareRows_62 : decode bc_R_compareRows 62 = .ok (.aload_n 0, 1) := by decide +kernel
theorem dc_R_compareRows_63 : decode bc_R_compareRows 63 = .ok (.getfield 8, 3) := by decide +kernel
theorem dc_R_compareRows_66 : decode bc_R_compareRows 66 = .ok (.iload_n 2, 1) := by decide +kernel
theorem dc_R_compareRows_67 : decode bc_R_compareRows 67 = .ok (.invokestatic 22, 3) := by decide +kernel
theorem dc_R_compareRows_70 : decode bc_R_compareRows 70 = .ok (.iload_n 3, 1) := by decide +kernel
theorem dc_R_compareRows_71 : decode bc_R_compareRows 71 = .ok (.iadd, 1) := by decide +kernel
theorem dc_R_compareRows_72 : decode bc_R_compareRows 72 = .ok (.iaload, 1) := by decide +kernel
theorem dc_R_compareRows_73 : decode bc_R_compareRows 73 = .ok (.istore 5, 2) := by decide +kernel
theorem dc_R_compareRows_75 : decode bc_R_compareRows 75 = .ok (.iload 4, 2) := by decide +kernel
theorem dc_R_compareRows_77 : decode bc_R_compareRows 77 = .ok (.iload 5, 2) := by decide +kernel
theorem dc_R_compareRows_79 : decode bc_R_compareRows 79 = .ok (.if_icmp .eq 16, 3) := by decide +kernel
theorem dc_R_compareRows_82 : decode bc_R_compareRows 82 = .ok (.iload 4, 2) := by decide +kernel
theorem dc_R_compareRows_84 : decode bc_R_compareRows 84 = .ok (.iload 5, 2) := by decide +kernel
theorem dc_R_compareRows_86 : decode bc_R_compareRows 86 = .ok (.if_icmp .ge 7, 3) := by decide +kernel
theorem dc_R_compareRows_89 : decode bc_R_compareRows 89 = .ok (.iconst (-1), 1) := by decide +kernel
theorem dc_R_compareRows_90 : decode bc_R_compareRows 90 = .ok (.goto 4, 3) := by decide +kernel
theorem dc_R_compareRows_93 : decode bc_R_compareRows 93 = .ok (.iconst 1, 1) := by decide +kernel
theorem dc_R_compareRows_94 : decode bc_R_compareRows 94 = .ok (.ireturn, 1) := by decide +kernel
theorem dc_R_compareRows_95 : decode bc_R_compareRows 95 = .ok (.iinc 3 (-1), 3) := by decide +kernel
theorem dc_R_compareRows_98 : decode bc_R_compareRows 98 = .ok (.goto (-53), 3) := by decide +kernel
theorem dc_R_compareRows_101 : decode bc_R_compareRows 101 = .ok (.iconst 0, 1) := by decide +kernel
theorem dc_R_compareRows_102 : decode bc_R_compareRows 102 = .ok (.ireturn, 1) := by decide +kernel
theorem dc_R_sum_0 : decode bc_R_sum 0 = .ok (.aload_n 0, 1) := by decide +kernel
theorem dc_R_sum_1 : decode bc_R_sum 1 = .ok (.getfield 14, 3) := by decide +kernel
theorem dc_R_sum_4 : decode bc_R_sum 4 = .ok (.iload_n 2, 1) := by decide +kernel
theorem dc_R_sum_5 : decode bc_R_sum 5 = .ok (.iaload, 1) := by decide +kernel
theorem dc_R_sum_6 : decode bc_R_sum 6 = .ok (.aload_n 0, 1) := by decide +kernel
theorem dc_R_sum_7 : decode bc_R_sum 7 = .ok (.getfield 14, 3) := by decide +kernel
theorem dc_R_sum_10 : decode bc_R_sum 10 = .ok (.iload_n 3, 1) := by decide +kernel
theorem dc_R_sum_11 : decode bc_R_sum 11 = .ok (.iaload, 1) := by decide +kernel
theorem dc_R_sum_12 : decode bc_R_sum 12 = .ok (.if_icmp .ge 12, 3) := by decide +kernel
theorem dc_R_sum_15 : decode bc_R_sum 15 = .ok (.aload_n 0, 1) := by decide +kernel
theorem dc_R_sum_16 : decode bc_R_sum 16 = .ok (.getfield 14, 3) := by decide +kernel
theorem dc_R_sum_19 : decode bc_R_sum 19 = .ok (.iload_n 3, 1) := by decide +kernel
theorem dc_R_sum_20 : decode bc_R_sum 20 = .ok (.iaload, 1) := by decide +kernel
theorem dc_R_sum_21 : decode bc_R_sum 21 = .ok (.goto 9, 3) := by decide +kernel
theorem dc_R_sum_24 : decode bc_R_sum 24 = .ok (.aload_n 0, 1) := by decide +kernel
theorem dc_R_sum_25 : decode bc_R_sum 25 = .ok (.getfield 14, 3) := by decide +kernel
theorem dc_R_sum_28 : decode bc_R_sum 28 = .ok (.iload_n 2, 1) := by decide +kernel
theorem dc_R_sum_29 : decode bc_R_sum 29 = .ok (.iaload, 1) := by decide +kernel
theorem dc_R_sum_30 : decode bc_R_sum 30 = .ok (.istore 4, 2) := by decide +kernel
theorem dc_R_sum_32 : decode bc_R_sum 32 = .ok (.iconst 0, 1) := by decide +kernel
theorem dc_R_sum_33 : decode bc_R_sum 33 = .ok (.istore 5, 2) := by decide +kernel
theorem dc_R_sum_35 : decode bc_R_sum 35 = .ok (.iconst 0, 1) := by decide +kernel
theorem dc_R_sum_36 : decode bc_R_sum 36 = .ok (.istore 6, 2) := by decide +kernel
theorem dc_R_sum_38 : decode bc_R_sum 38 = .ok (.iload 6, 2) := by decide +kernel
theorem dc_R_sum_40 : decode bc_R_sum 40 = .ok (.iload 4, 2) := by decide +kernel
theorem dc_R_sum_42 : decode bc_R_sum 42 = .ok (.if_icmp .gt 53, 3) := by decide +kernel
theorem dc_R_sum_45 : decode bc_R_sum 45 = .ok (.aload_n 0, 1) := by decide +kernel
theorem dc_R_sum_46 : decode bc_R_sum 46 = .ok (.iload_n 2, 1) := by decide +kernel
theorem dc_R_sum_47 : decode bc_R_sum 47 = .ok (.iload 6, 2) := by decide +kernel
theorem dc_R_sum_49 : decode bc_R_sum 49 = .ok (.invokevirtual 32, 3) := by decide +kernel
theorem dc_R_sum_52 : decode bc_R_sum 52 = .ok (.aload_n 0, 1) := by decide +kernel
theorem dc_R_sum_53 : decode bc_R_sum 53 = .ok (.iload_n 3, 1) := by decide +kernel
theorem dc_R_sum_54 : decode bc_R_sum 54 = .ok (.iload 6, 2) := by decide +kernel
theorem dc_R_sum_56 : decode bc_R_sum 56 = .ok (.invokevirtual 32, 3) := by decide +kernel
theorem dc_R_sum_59 : decode bc_R_sum 59 = .ok (.iadd, 1) := by decide +kernel
theorem dc_R_sum_60 : decode bc_R_sum 60 = .ok (.iload 5, 2) := by decide +kernel
theorem dc_R_sum_62 : decode bc_R_sum 62 = .ok (.iadd, 1) := by decide +kernel
theorem dc_R_sum_63 : decode bc_R_sum 63 = .ok (.istore 7, 2) := by decide +kernel
theorem dc_R_sum_65 : decode bc_R_sum 65 = .ok (.iload 7, 2) := by decide +kernel
theorem dc_R_sum_67 : decode bc_R_sum 67 = .ok (.bipush 16, 2) := by decide +kernel
theorem dc_R_sum_69 : decode bc_R_sum 69 = .ok (.ishr, 1) := by decide +kernel
theorem dc_R_sum_70 : decode bc_R_sum 70 = .ok (.istore 5, 2) := by decide +kernel
theorem dc_R_sum_72 : decode bc_R_sum 72 = .ok (.aload_n 0, 1) := by decide +kernel
theorem dc_R_sum_73 : decode bc_R_sum 73 = .ok (.getfield 8, 3) := by decide +kernel
theorem dc_R_sum_76 : decode bc_R_sum 76 = .ok (.iload_n 1, 1) := by decide +kernel
theorem dc_R_sum_77 : decode bc_R_sum 77 = .ok (.invokestatic 22, 3) := by decide +kernel
theorem dc_R_sum_80 : decode bc_R_sum 80 = .ok (.iload 6, 2) := by decide +kernel
theorem dc_R_sum_82 : decode bc_R_sum 82 = .ok (.iadd, 1) := by decide +kernel
theorem dc_R_sum_83 : decode bc_R_sum 83 = .ok (.iload 7, 2) := by decide +kernel
theorem dc_R_sum_85 : decode bc_R_sum 85 = .ok (.ldc 36, 2) := by decide +kernel
theorem dc_R_sum_87 : decode bc_R_sum 87 = .ok (.iand, 1) := by decide +kernel
theorem dc_R_sum_88 : decode bc_R_sum 88 = .ok (.iastore, 1) := by decide +kernel
theorem dc_R_sum_89 : decode bc_R_sum 89 = .ok (.iinc 6 1, 3) := by decide +kernel
theorem dc_R_sum_92 : decode bc_R_sum 92 = .ok (.goto (-54), 3) := by decide +kernel
theorem dc_R_sum_95 : decode bc_R_sum 95 = .ok (.aload_n 0, 1) := by decide +kernel
theorem dc_R_sum_96 : decode bc_R_sum 96 = .ok (.iload_n 1, 1) := by decide +kernel
theorem dc_R_sum_97 : decode bc_R_sum 97 = .ok (.iload 4, 2) := by decide +kernel
theorem dc_R_sum_99 : decode bc_R_sum 99 = .ok (.iconst 1, 1) := by decide +kernel
theorem dc_R_sum_100 : decode bc_R_sum 100 = .ok (.iadd, 1) := by decide +kernel
theorem dc_R_sum_101 : decode bc_R_sum 101 = .ok (.invokevirtual 28, 3) := by decide +kernel
theorem dc_R_sum_104 : decode bc_R_sum 104 = .ok (.return_, 1) := by decide +kernel
theorem dc_R_digit_0 : decode bc_R_digit 0 = .ok (.iload_n 2, 1) := by decide +kernel
theorem dc_R_digit_1 : decode bc_R_digit 1 = .ok (.aload_n 0, 1) := by decide +kernel
theorem dc_R_digit_2 : decode bc_R_digit 2 = .ok (.getfield 14, 3) := by decide +kernel
theorem dc_R_digit_5 : decode bc_R_digit 5 = .ok (.iload_n 1, 1) := by decide +kernel
theorem dc_R_digit_6 : decode bc_R_digit 6 = .ok (.iaload, 1) := by decide +kernel
theorem dc_R_digit_7 : decode bc_R_digit 7 = .ok (.if_icmp .ge 17, 3) := by decide +kernel
theorem dc_R_digit_10 : decode bc_R_digit 10 = .ok (.aload_n 0, 1) := by decide +kernel
theorem dc_R_digit_11 : decode bc_R_digit 11 = .ok (.getfield 8, 3) := by decide +kernel
theorem dc_R_digit_14 : decode bc_R_digit 14 = .ok (.iload_n 1, 1) := by decide +kernel
theorem dc_R_digit_15 : decode bc_R_digit 15 = .ok (.invokestatic 22, 3) := by decide +kernel
theorem dc_R_digit_18 : decode bc_R_digit 18 = .ok (.iload_n 2, 1) := by decide +kernel
theorem dc_R_digit_19 : decode bc_R_digit 19 = .ok (.iadd, 1) := by decide +kernel
theorem dc_R_digit_20 : decode bc_R_digit 20 = .ok (.iaload, 1) := by decide +kernel
theorem dc_R_digit_21 : decode bc_R_digit 21 = .ok (.goto 4, 3) := by decide +kernel
theorem dc_R_digit_24 : decode bc_R_digit 24 = .ok (.iconst 0, 1) := by decide +kernel
theorem dc_R_digit_25 : decode bc_R_digit 25 = .ok (.ireturn, 1) := by decide +kernel
theorem dc_R_lessen_0 : decode bc_R_lessen 0 = .ok (.aload_n 0, 1) := by decide +kernel
theorem dc_R_lessen_1 : decode bc_R_lessen 1 = .ok (.getfield 14, 3) := by decide +kernel
theorem dc_R_lessen_4 : decode bc_R_lessen 4 = .ok (.iload_n 2, 1) := by decide +kernel
theorem dc_R_lessen_5 : decode bc_R_lessen 5 = .ok (.iaload, 1) := by decide +kernel
theorem dc_R_lessen_6 : decode bc_R_lessen 6 = .ok (.istore 4, 2) := by decide +kernel
theorem dc_R_lessen_8 : decode bc_R_lessen 8 = .ok (.iconst 0, 1) := by decide +kernel
theorem dc_R_lessen_9 : decode bc_R_lessen 9 = .ok (.istore 5, 2) := by decide +kernel
theorem dc_R_lessen_11 : decode bc_R_lessen 11 = .ok (.iconst 0, 1) := by decide +kernel
theorem dc_R_lessen_12 : decode bc_R_lessen 12 = .ok (.istore 6, 2) := by decide +kernel
theorem dc_R_lessen_14 : decode bc_R_lessen 14 = .ok (.iload 6, 2) := by decide +kernel
theorem dc_R_lessen_16 : decode bc_R_lessen 16 = .ok (.iload 4, 2) := by decide +kernel
theorem dc_R_lessen_18 : decode bc_R_lessen 18 = .ok (.if_icmp .ge 63, 3) := by decide +kernel
theorem dc_R_lessen_21 : decode bc_R_lessen 21 = .ok (.aload_n 0, 1) := by decide +kernel
theorem dc_R_lessen_22 : decode bc_R_lessen 22 = .ok (.getfield 8, 3) := by decide +kernel
theorem dc_R_lessen_25 : decode bc_R_lessen 25 = .ok (.iload_n 2, 1) := by decide +kernel
theorem dc_R_lessen_26 : decode bc_R_lessen 26 = .ok (.invokestatic 22, 3) := by decide +kernel
theorem dc_R_lessen_29 : decode bc_R_lessen 29 = .ok (.iload 6, 2) := by decide +kernel
theorem dc_R_lessen_31 : decode bc_R_lessen 31 = .ok (.iadd, 1) := by decide +kernel
theorem dc_R_lessen_32 : decode bc_R_lessen 32 = .ok (.iaload, 1) := by decide +kernel
theorem dc_R_lessen_33 : decode bc_R_lessen 33 = .ok (.aload_n 0, 1) := by decide +kernel
theorem dc_R_lessen_34 : decode bc_R_lessen 34 = .ok (.iload_n 3, 1) := by decide +kernel
theorem dc_R_lessen_35 : decode bc_R_lessen 35 = .ok (.iload 6, 2) := by decide +kernel
theorem dc_R_lessen_37 : decode bc_R_lessen 37 = .ok (.invokevirtual 32, 3) := by decide +kernel
theorem dc_R_lessen_40 : decode bc_R_lessen 40 = .ok (.isub, 1) := by decide +kernel
theorem dc_R_lessen_41 : decode bc_R_lessen 41 = .ok (.iload 5, 2) := by decide +kernel
theorem dc_R_lessen_43 : decode bc_R_lessen 43 = .ok (.isub, 1) := by decide +kernel
theorem dc_R_lessen_44 : decode bc_R_lessen 44 = .ok (.istore 7, 2) := by decide +kernel
theorem dc_R_lessen_46 : decode bc_R_lessen 46 = .ok (.iload 7, 2) := by decide +kernel
theorem dc_R_lessen_48 : decode bc_R_lessen 48 = .ok (.ifCond .ge 7, 3) := by decide +kernel
theorem dc_R_lessen_51 : decode bc_R_lessen 51 = .ok (.iconst 1, 1) := by decide +kernel
theorem dc_R_lessen_52 : decode bc_R_lessen 52 = .ok (.goto 4, 3) := by decide +kernel
theorem dc_R_lessen_55 : decode bc_R_lessen 55 = .ok (.iconst 0, 1) := by decide +kernel
theorem dc_R_lessen_56 : decode bc_R_lessen 56 = .ok (.istore 5, 2) := by decide +kernel
theorem dc_R_lessen_58 : decode bc_R_lessen 58 = .ok (.aload_n 0, 1) := by decide +kernel
theorem dc_R_lessen_59 : decode bc_R_lessen 59 = .ok (.getfield 8, 3) := by decide +kernel
theorem dc_R_lessen_62 : decode bc_R_lessen 62 = .ok (.iload_n 1, 1) := by decide +kernel
theorem dc_R_lessen_63 : decode bc_R_lessen 63 = .ok (.invokestatic 22, 3) := by decide +kernel
theorem dc_R_lessen_66 : decode bc_R_lessen 66 = .ok (.iload 6, 2) := by decide +kernel
theorem dc_R_lessen_68 : decode bc_R_lessen 68 = .ok (.iadd, 1) := by decide +kernel
theorem dc_R_lessen_69 : decode bc_R_lessen 69 = .ok (.iload 7, 2) := by decide +kernel
theorem dc_R_lessen_71 : decode bc_R_lessen 71 = .ok (.ldc 36, 2) := by decide +kernel
theorem dc_R_lessen_73 : decode bc_R_lessen 73 = .ok (.iand, 1) := by decide +kernel
theorem dc_R_lessen_74 : decode bc_R_lessen 74 = .ok (.iastore, 1) := by decide +kernel
theorem dc_R_lessen_75 : decode bc_R_lessen 75 = .ok (.iinc 6 1, 3) := by decide +kernel
theorem dc_R_lessen_78 : decode bc_R_lessen 78 = .ok (.goto (-64), 3) := by decide +kernel
theorem dc_R_lessen_81 : decode bc_R_lessen 81 = .ok (.aload_n 0, 1) := by decide +kernel
theorem dc_R_lessen_82 : decode bc_R_lessen 82 = .ok (.iload_n 1, 1) := by decide +kernel
theorem dc_R_lessen_83 : decode bc_R_lessen 83 = .ok (.iload 4, 2) := by decide +kernel
theorem dc_R_lessen_85 : decode bc_R_lessen 85 = .ok (.invokevirtual 28, 3) := by decide +kernel
theorem dc_R_lessen_88 : decode bc_R_lessen 88 = .ok (.return_, 1) := by decide +kernel
theorem dc_R_take_0 : decode bc_R_take 0 = .ok (.iload_n 1, 1) := by decide +kernel
theorem dc_R_take_1 : decode bc_R_take 1 = .ok (.invokestatic 67, 3) := by decide +kernel
theorem dc_R_take_4 : decode bc_R_take 4 = .ok (.ifCond .eq 51, 3) := by decide +kernel
theorem dc_R_take_7 : decode bc_R_take 7 = .ok (.iload_n 2, 1) := by decide +kernel
theorem dc_R_take_8 : decode bc_R_take 8 = .ok (.invokestatic 67, 3) := by decide +kernel
theorem dc_R_take_11 : decode bc_R_take 11 = .ok (.ifCond .eq 44, 3) := by decide +kernel
theorem dc_R_take_14 : decode bc_R_take 14 = .ok (.iload_n 3, 1) := by decide +kernel
theorem dc_R_take_15 : decode bc_R_take 15 = .ok (.invokestatic 67, 3) := by decide +kernel
theorem dc_R_take_18 : decode bc_R_take 18 = .ok (.ifCond .eq 37, 3) := by decide +kernel
theorem dc_R_take_21 : decode bc_R_take 21 = .ok (.aload_n 0, 1) := by decide +kernel
theorem dc_R_take_22 : decode bc_R_take 22 = .ok (.iload_n 1, 1) := by decide +kernel
theorem dc_R_take_23 : decode bc_R_take 23 = .ok (.iload_n 2, 1) := by decide +kernel
theorem dc_R_take_24 : decode bc_R_take 24 = .ok (.aload_n 0, 1) := by decide +kernel
theorem dc_R_take_25 : decode bc_R_take 25 = .ok (.getfield 17, 3) := by decide +kernel
theorem dc_R_take_28 : decode bc_R_take 28 = .ok (.iload_n 2, 1) := by decide +kernel
theorem dc_R_take_29 : decode bc_R_take 29 = .ok (.baload, 1) := by decide +kernel
theorem dc_R_take_30 : decode bc_R_take 30 = .ok (.iload_n 3, 1) := by decide +kernel
theorem dc_R_take_31 : decode bc_R_take 31 = .ok (.aload_n 0, 1) := by decide +kernel
theorem dc_R_take_32 : decode bc_R_take 32 = .ok (.getfield 17, 3) := by decide +kernel
theorem dc_R_take_35 : decode bc_R_take 35 = .ok (.iload_n 3, 1) := by decide +kernel
theorem dc_R_take_36 : decode bc_R_take 36 = .ok (.baload, 1) := by decide +kernel
theorem dc_R_take_37 : decode bc_R_take 37 = .ok (.ifCond .ne 7, 3) := by decide +kernel
theorem dc_R_take_40 : decode bc_R_take 40 = .ok (.iconst 1, 1) := by decide +kernel
theorem dc_R_take_41 : decode bc_R_take 41 = .ok (.goto 4, 3) := by decide +kernel
theorem dc_R_take_44 : decode bc_R_take 44 = .ok (.iconst 0, 1) := by decide +kernel
theorem dc_R_take_45 : decode bc_R_take 45 = .ok (.invokevirtual 82, 3) := by decide +kernel
theorem dc_R_take_48 : decode bc_R_take 48 = .ok (.ifCond .eq 7, 3) := by decide +kernel
theorem dc_R_take_51 : decode bc_R_take 51 = .ok (.iconst 1, 1) := by decide +kernel
theorem dc_R_take_52 : decode bc_R_take 52 = .ok (.goto 4, 3) := by decide +kernel
theorem dc_R_take_55 : decode bc_R_take 55 = .ok (.iconst 0, 1) := by decide +kernel
theorem dc_R_take_56 : decode bc_R_take 56 = .ok (.ireturn, 1) := by decide +kernel
theorem dc_R_times_0 : decode bc_R_times 0 = .ok (.iload_n 1, 1) := by decide +kernel
theorem dc_R_times_1 : decode bc_R_times 1 = .ok (.invokestatic 67, 3) := by decide +kernel
theorem dc_R_times_4 : decode bc_R_times 4 = .ok (.ifCond .eq 17, 3) := by decide +kernel
theorem dc_R_times_7 : decode bc_R_times 7 = .ok (.iload_n 2, 1) := by decide +kernel
theorem dc_R_times_8 : decode bc_R_times 8 = .ok (.invokestatic 67, 3) := by decide +kernel
theorem dc_R_times_11 : decode bc_R_times 11 = .ok (.ifCond .eq 10, 3) := by decide +kernel
theorem dc_R_times_14 : decode bc_R_times 14 = .ok (.iload_n 3, 1) := by decide +kernel
theorem dc_R_times_15 : decode bc_R_times 15 = .ok (.invokestatic 67, 3) := by decide +kernel
theorem dc_R_times_18 : decode bc_R_times 18 = .ok (.ifCond .ne 5, 3) := by decide +kernel
theorem dc_R_times_21 : decode bc_R_times 21 = .ok (.iconst 0, 1) := by decide +kernel
theorem dc_R_times_22 : decode bc_R_times 22 = .ok (.ireturn, 1) := by decide +kernel
theorem dc_R_times_23 : decode bc_R_times 23 = .ok (.aload_n 0, 1) := by decide +kernel
theorem dc_R_times_24 : decode bc_R_times 24 = .ok (.bipush 16, 2) := by decide +kernel
theorem dc_R_times_26 : decode bc_R_times 26 = .ok (.iload_n 2, 1) := by decide +kernel
theorem dc_R_times_27 : decode bc_R_times 27 = .ok (.iload_n 3, 1) := by decide +kernel
theorem dc_R_times_28 : decode bc_R_times 28 = .ok (.invokevirtual 86, 3) := by decide +kernel
theorem dc_R_times_31 : decode bc_R_times 31 = .ok (.aload_n 0, 1) := by decide +kernel
theorem dc_R_times_32 : decode bc_R_times 32 = .ok (.iload_n 1, 1) := by decide +kernel
theorem dc_R_times_33 : decode bc_R_times 33 = .ok (.bipush 16, 2) := by decide +kernel
theorem dc_R_times_35 : decode bc_R_times 35 = .ok (.aload_n 0, 1) := by decide +kernel
theorem dc_R_times_36 : decode bc_R_times 36 = .ok (.getfield 17, 3) := by decide +kernel
theorem dc_R_times_39 : decode bc_R_times 39 = .ok (.iload_n 2, 1) := by decide +kernel
theorem dc_R_times_40 : decode bc_R_times 40 = .ok (.baload, 1) := by decide +kernel
theorem dc_R_times_41 : decode bc_R_times 41 = .ok (.aload_n 0, 1) := by decide +kernel
theorem dc_R_times_42 : decode bc_R_times 42 = .ok (.getfield 17, 3) := by decide +kernel
theorem dc_R_times_45 : decode bc_R_times 45 = .ok (.iload_n 3, 1) := by decide +kernel
theorem dc_R_times_46 : decode bc_R_times 46 = .ok (.baload, 1) := by decide +kernel
theorem dc_R_times_47 : decode bc_R_times 47 = .ok (.if_icmp .eq 7, 3) := by decide +kernel
theorem dc_R_times_50 : decode bc_R_times 50 = .ok (.iconst 1, 1) := by decide +kernel
theorem dc_R_times_51 : decode bc_R_times 51 = .ok (.goto 4, 3) := by decide +kernel
theorem dc_R_times_54 : decode bc_R_times 54 = .ok (.iconst 0, 1) := by decide +kernel
theorem dc_R_times_55 : decode bc_R_times 55 = .ok (.invokevirtual 75, 3) := by decide +kernel
theorem dc_R_times_58 : decode bc_R_times 58 = .ok (.ireturn, 1) := by decide +kernel
theorem dc_R_product_0 : decode bc_R_product 0 = .ok (.aload_n 0, 1) := by decide +kernel
theorem dc_R_product_1 : decode bc_R_product 1 = .ok (.getfield 14, 3) := by decide +kernel
theorem dc_R_product_4 : decode bc_R_product 4 = .ok (.iload_n 2, 1) := by decide +kernel
theorem dc_R_product_5 : decode bc_R_product 5 = .ok (.iaload, 1) := by decide +kernel
theorem dc_R_product_6 : decode bc_R_product 6 = .ok (.aload_n 0, 1) := by decide +kernel
theorem dc_R_product_7 : decode bc_R_product 7 = .ok (.getfield 14, 3) := by decide +kernel
theorem dc_R_product_10 : decode bc_R_product 10 = .ok (.iload_n 3, 1) := by decide +kernel
theorem dc_R_product_11 : decode bc_R_product 11 = .ok (.iaload, 1) := by decide +kernel
theorem dc_R_product_12 : decode bc_R_product 12 = .ok (.iadd, 1) := by decide +kernel
theorem dc_R_product_13 : decode bc_R_product 13 = .ok (.iconst 1, 1) := by decide +kernel
theorem dc_R_product_14 : decode bc_R_product 14 = .ok (.iadd, 1) := by decide +kernel
theorem dc_R_product_15 : decode bc_R_product 15 = .ok (.istore 4, 2) := by decide +kernel
theorem dc_R_product_17 : decode bc_R_product 17 = .ok (.iconst 0, 1) := by decide +kernel
theorem dc_R_product_18 : decode bc_R_product 18 = .ok (.istore 5, 2) := by decide +kernel
theorem dc_R_product_20 : decode bc_R_product 20 = .ok (.iload 5, 2) := by decide +kernel
theorem dc_R_product_22 : decode bc_R_product 22 = .ok (.iload 4, 2) := by decide +kernel
theorem dc_R_product_24 : decode bc_R_product 24 = .ok (.if_icmp .ge 22, 3) := by decide +kernel
theorem dc_R_product_27 : decode bc_R_product 27 = .ok (.aload_n 0, 1) := by decide +kernel
theorem dc_R_product_28 : decode bc_R_product 28 = .ok (.getfield 8, 3) := by decide +kernel
theorem dc_R_product_31 : decode bc_R_product 31 = .ok (.iload_n 1, 1) := by decide +kernel
theorem dc_R_product_32 : decode bc_R_product 32 = .ok (.invokestatic 22, 3) := by decide +kernel
theorem dc_R_product_35 : decode bc_R_product 35 = .ok (.iload 5, 2) := by decide +kernel
theorem dc_R_product_37 : decode bc_R_product 37 = .ok (.iadd, 1) := by decide +kernel
theorem dc_R_product_38 : decode bc_R_product 38 = .ok (.iconst 0, 1) := by decide +kernel
theorem dc_R_product_39 : decode bc_R_product 39 = .ok (.iastore, 1) := by decide +kernel
theorem dc_R_product_40 : decode bc_R_product 40 = .ok (.iinc 5 1, 3) := by decide +kernel
theorem dc_R_product_43 : decode bc_R_product 43 = .ok (.goto (-23), 3) := by decide +kernel
theorem dc_R_product_46 : decode bc_R_product 46 = .ok (.iconst 0, 1) := by decide +kernel
theorem dc_R_product_47 : decode bc_R_product 47 = .ok (.istore 5, 2) := by decide +kernel
theorem dc_R_product_49 : decode bc_R_product 49 = .ok (.iload 5, 2) := by decide +kernel
theorem dc_R_product_51 : decode bc_R_product 51 = .ok (.aload_n 0, 1) := by decide +kernel
theorem dc_R_product_52 : decode bc_R_product 52 = .ok (.getfield 14, 3) := by decide +kernel
theorem dc_R_product_55 : decode bc_R_product 55 = .ok (.iload_n 2, 1) := by decide +kernel
theorem dc_R_product_56 : decode bc_R_product 56 = .ok (.iaload, 1) := by decide +kernel
theorem dc_R_product_57 : decode bc_R_product 57 = .ok (.if_icmp .ge 109, 3) := by decide +kernel
theorem dc_R_product_60 : decode bc_R_product 60 = .ok (.aload_n 0, 1) := by decide +kernel
theorem dc_R_product_61 : decode bc_R_product 61 = .ok (.getfield 8, 3) := by decide +kernel
theorem dc_R_product_64 : decode bc_R_product 64 = .ok (.iload_n 2, 1) := by decide +kernel
theorem dc_R_product_65 : decode bc_R_product 65 = .ok (.invokestatic 22, 3) := by decide +kernel
theorem dc_R_product_68 : decode bc_R_product 68 = .ok (.iload 5, 2) := by decide +kernel
theorem dc_R_product_70 : decode bc_R_product 70 = .ok (.iadd, 1) := by decide +kernel
theorem dc_R_product_71 : decode bc_R_product 71 = .ok (.iaload, 1) := by decide +kernel
theorem dc_R_product_72 : decode bc_R_product 72 = .ok (.i2l, 1) := by decide +kernel
theorem dc_R_product_73 : decode bc_R_product 73 = .ok (.lstore 6, 2) := by decide +kernel
theorem dc_R_product_75 : decode bc_R_product 75 = .ok (.lconst 0, 1) := by decide +kernel
theorem dc_R_product_76 : decode bc_R_product 76 = .ok (.lstore 8, 2) := by decide +kernel
theorem dc_R_product_78 : decode bc_R_product 78 = .ok (.iconst 0, 1) := by decide +kernel
theorem dc_R_product_79 : decode bc_R_product 79 = .ok (.istore 10, 2) := by decide +kernel
theorem dc_R_product_81 : decode bc_R_product 81 = .ok (.iload 10, 2) := by decide +kernel
theorem dc_R_product_83 : decode bc_R_product 83 = .ok (.aload_n 0, 1) := by decide +kernel
theorem dc_R_product_84 : decode bc_R_product 84 = .ok (.getfield 14, 3) := by decide +kernel
theorem dc_R_product_87 : decode bc_R_product 87 = .ok (.iload_n 3, 1) := by decide +kernel
theorem dc_R_product_88 : decode bc_R_product 88 = .ok (.iaload, 1) := by decide +kernel
theorem dc_R_product_89 : decode bc_R_product 89 = .ok (.if_icmp .gt 71, 3) := by decide +kernel
theorem dc_R_product_92 : decode bc_R_product 92 = .ok (.lload 6, 2) := by decide +kernel
theorem dc_R_product_94 : decode bc_R_product 94 = .ok (.aload_n 0, 1) := by decide +kernel
theorem dc_R_product_95 : decode bc_R_product 95 = .ok (.iload_n 3, 1) := by decide +kernel
theorem dc_R_product_96 : decode bc_R_product 96 = .ok (.iload 10, 2) := by decide +kernel
theorem dc_R_product_98 : decode bc_R_product 98 = .ok (.invokevirtual 32, 3) := by decide +kernel
theorem dc_R_product_101 : decode bc_R_product 101 = .ok (.i2l, 1) := by decide +kernel
theorem dc_R_product_102 : decode bc_R_product 102 = .ok (.lmul, 1) := by decide +kernel
theorem dc_R_product_103 : decode bc_R_product 103 = .ok (.aload_n 0, 1) := by decide +kernel
theorem dc_R_product_104 : decode bc_R_product 104 = .ok (.getfield 8, 3) := by decide +kernel
theorem dc_R_product_107 : decode bc_R_product 107 = .ok (.iload_n 1, 1) := by decide +kernel
theorem dc_R_product_108 : decode bc_R_product 108 = .ok (.invokestatic 22, 3) := by decide +kernel
theorem dc_R_product_111 : decode bc_R_product 111 = .ok (.iload 5, 2) := by decide +kernel
theorem dc_R_product_113 : decode bc_R_product 113 = .ok (.iadd, 1) := by decide +kernel
theorem dc_R_product_114 : decode bc_R_product 114 = .ok (.iload 10, 2) := by decide +kernel
theorem dc_R_product_116 : decode bc_R_product 116 = .ok (.iadd, 1) := by decide +kernel
theorem dc_R_product_117 : decode bc_R_product 117 = .ok (.iaload, 1) := by decide +kernel
theorem dc_R_product_118 : decode bc_R_product 118 = .ok (.i2l, 1) := by decide +kernel
theorem dc_R_product_119 : decode bc_R_product 119 = .ok (.ladd, 1) := by decide +kernel
theorem dc_R_product_120 : decode bc_R_product 120 = .ok (.lload 8, 2) := by decide +kernel
theorem dc_R_product_122 : decode bc_R_product 122 = .ok (.ladd, 1) := by decide +kernel
theorem dc_R_product_123 : decode bc_R_product 123 = .ok (.lstore 11, 2) := by decide +kernel
theorem dc_R_product_125 : decode bc_R_product 125 = .ok (.aload_n 0, 1) := by decide +kernel
theorem dc_R_product_126 : decode bc_R_product 126 = .ok (.getfield 8, 3) := by decide +kernel
theorem dc_R_product_129 : decode bc_R_product 129 = .ok (.iload_n 1, 1) := by decide +kernel
theorem dc_R_product_130 : decode bc_R_product 130 = .ok (.invokestatic 22, 3) := by decide +kernel
theorem dc_R_product_133 : decode bc_R_product 133 = .ok (.iload 5, 2) := by decide +kernel
theorem dc_R_product_135 : decode bc_R_product 135 = .ok (.iadd, 1) := by decide +kernel
theorem dc_R_product_136 : decode bc_R_product 136 = .ok (.iload 10, 2) := by decide +kernel
theorem dc_R_product_138 : decode bc_R_product 138 = .ok (.iadd, 1) := by decide +kernel
theorem dc_R_product_139 : decode bc_R_product 139 = .ok (.lload 11, 2) := by decide +kernel
theorem dc_R_product_141 : decode bc_R_product 141 = .ok (.ldc2_w 26, 3) := by decide +kernel
theorem dc_R_product_144 : decode bc_R_product 144 = .ok (.land, 1) := by decide +kernel
theorem dc_R_product_145 : decode bc_R_product 145 = .ok (.l2i, 1) := by decide +kernel
theorem dc_R_product_146 : decode bc_R_product 146 = .ok (.iastore, 1) := by decide +kernel
theorem dc_R_product_147 : decode bc_R_product 147 = .ok (.lload 11, 2) := by decide +kernel
theorem dc_R_product_149 : decode bc_R_product 149 = .ok (.bipush 16, 2) := by decide +kernel
theorem dc_R_product_151 : decode bc_R_product 151 = .ok (.lshr, 1) := by decide +kernel
theorem dc_R_product_152 : decode bc_R_product 152 = .ok (.lstore 8, 2) := by decide +kernel
theorem dc_R_product_154 : decode bc_R_product 154 = .ok (.iinc 10 1, 3) := by decide +kernel
theorem dc_R_product_157 : decode bc_R_product 157 = .ok (.goto (-76), 3) := by decide +kernel
theorem dc_R_product_160 : decode bc_R_product 160 = .ok (.iinc 5 1, 3) := by decide +kernel
theorem dc_R_product_163 : decode bc_R_product 163 = .ok (.goto (-114), 3) := by decide +kernel
theorem dc_R_product_166 : decode bc_R_product 166 = .ok (.aload_n 0, 1) := by decide +kernel
theorem dc_R_product_167 : decode bc_R_product 167 = .ok (.iload_n 1, 1) := by decide +kernel
theorem dc_R_product_168 : decode bc_R_product 168 = .ok (.iload 4, 2) := by decide +kernel
theorem dc_R_product_170 : decode bc_R_product 170 = .ok (.invokevirtual 28, 3) := by decide +kernel
theorem dc_R_product_173 : decode bc_R_product 173 = .ok (.return_, 1) := by decide +kernel
theorem dc_R_divide_0 : decode bc_R_divide 0 = .ok (.iload_n 1, 1) := by decide +kernel
theorem dc_R_divide_1 : decode bc_R_divide 1 = .ok (.invokestatic 67, 3) := by decide +kernel
theorem dc_R_divide_4 : decode bc_R_divide 4 = .ok (.ifCond .eq 40, 3) := by decide +kernel
theorem dc_R_divide_7 : decode bc_R_divide 7 = .ok (.iload_n 2, 1) := by decide +kernel
theorem dc_R_divide_8 : decode bc_R_divide 8 = .ok (.invokestatic 67, 3) := by decide +kernel
theorem dc_R_divide_11 : decode bc_R_divide 11 = .ok (.ifCond .eq 33, 3) := by decide +kernel
theorem dc_R_divide_14 : decode bc_R_divide 14 = .ok (.iload_n 3, 1) := by decide +kernel
theorem dc_R_divide_15 : decode bc_R_divide 15 = .ok (.invokestatic 67, 3) := by decide +kernel
theorem dc_R_divide_18 : decode bc_R_divide 18 = .ok (.ifCond .eq 26, 3) := by decide +kernel
theorem dc_R_divide_21 : decode bc_R_divide 21 = .ok (.iload 4, 2) := by decide +kernel
theorem dc_R_divide_23 : decode bc_R_divide 23 = .ok (.invokestatic 67, 3) := by decide +kernel
theorem dc_R_divide_26 : decode bc_R_divide 26 = .ok (.ifCond .eq 18, 3) := by decide +kernel
theorem dc_R_divide_29 : decode bc_R_divide 29 = .ok (.iload_n 1, 1) := by decide +kernel
theorem dc_R_divide_30 : decode bc_R_divide 30 = .ok (.iload_n 2, 1) := by decide +kernel
theorem dc_R_divide_31 : decode bc_R_divide 31 = .ok (.if_icmp .eq 13, 3) := by decide +kernel
theorem dc_R_divide_34 : decode bc_R_divide 34 = .ok (.aload_n 0, 1) := by decide +kernel
theorem dc_R_divide_35 : decode bc_R_divide 35 = .ok (.getfield 14, 3) := by decide +kernel
theorem dc_R_divide_38 : decode bc_R_divide 38 = .ok (.iload 4, 2) := by decide +kernel
theorem dc_R_divide_40 : decode bc_R_divide 40 = .ok (.iaload, 1) := by decide +kernel
theorem dc_R_divide_41 : decode bc_R_divide 41 = .ok (.ifCond .ne 5, 3) := by decide +kernel
theorem dc_R_divide_44 : decode bc_R_divide 44 = .ok (.iconst 0, 1) := by decide +kernel
theorem dc_R_divide_45 : decode bc_R_divide 45 = .ok (.ireturn, 1) := by decide +kernel
theorem dc_R_divide_46 : decode bc_R_divide 46 = .ok (.aload_n 0, 1) := by decide +kernel
theorem dc_R_divide_47 : decode bc_R_divide 47 = .ok (.getfield 17, 3) := by decide +kernel
theorem dc_R_divide_50 : decode bc_R_divide 50 = .ok (.iload_n 3, 1) := by decide +kernel
theorem dc_R_divide_51 : decode bc_R_divide 51 = .ok (.baload, 1) := by decide +kernel
theorem dc_R_divide_52 : decode bc_R_divide 52 = .ok (.aload_n 0, 1) := by decide +kernel
theorem dc_R_divide_53 : decode bc_R_divide 53 = .ok (.getfield 17, 3) := by decide +kernel
theorem dc_R_divide_56 : decode bc_R_divide 56 = .ok (.iload 4, 2) := by decide +kernel
theorem dc_R_divide_58 : decode bc_R_divide 58 = .ok (.baload, 1) := by decide +kernel
theorem dc_R_divide_59 : decode bc_R_divide 59 = .ok (.if_icmp .eq 7, 3) := by decide +kernel
theorem dc_R_divide_62 : decode bc_R_divide 62 = .ok (.iconst 1, 1) := by decide +kernel
theorem dc_R_divide_63 : decode bc_R_divide 63 = .ok (.goto 4, 3) := by decide +kernel
theorem dc_R_divide_66 : decode bc_R_divide 66 = .ok (.iconst 0, 1) := by decide +kernel
theorem dc_R_divide_67 : decode bc_R_divide 67 = .ok (.istore 6, 2) := by decide +kernel
theorem dc_R_divide_69 : decode bc_R_divide 69 = .ok (.aload_n 0, 1) := by decide +kernel
theorem dc_R_divide_70 : decode bc_R_divide 70 = .ok (.getfield 17, 3) := by decide +kernel
theorem dc_R_divide_73 : decode bc_R_divide 73 = .ok (.iload_n 3, 1) := by decide +kernel
theorem dc_R_divide_74 : decode bc_R_divide 74 = .ok (.baload, 1) := by decide +kernel
theorem dc_R_divide_75 : decode bc_R_divide 75 = .ok (.istore 7, 2) := by decide +kernel
theorem dc_R_divide_77 : decode bc_R_divide 77 = .ok (.aload_n 0, 1) := by decide +kernel
theorem dc_R_divide_78 : decode bc_R_divide 78 = .ok (.getfield 17, 3) := by decide +kernel
theorem dc_R_divide_81 : decode bc_R_divide 81 = .ok (.iload 4, 2) := by decide +kernel
theorem dc_R_divide_83 : decode bc_R_divide 83 = .ok (.baload, 1) := by decide +kernel
theorem dc_R_divide_84 : decode bc_R_divide 84 = .ok (.istore 8, 2) := by decide +kernel
theorem dc_R_divide_86 : decode bc_R_divide 86 = .ok (.aload_n 0, 1) := by decide +kernel
theorem dc_R_divide_87 : decode bc_R_divide 87 = .ok (.bipush 18, 2) := by decide +kernel
theorem dc_R_divide_89 : decode bc_R_divide 89 = .ok (.iload_n 3, 1) := by decide +kernel
theorem dc_R_divide_90 : decode bc_R_divide 90 = .ok (.invokevirtual 64, 3) := by decide +kernel
theorem dc_R_divide_93 : decode bc_R_divide 93 = .ok (.aload_n 0, 1) := by decide +kernel
theorem dc_R_divide_94 : decode bc_R_divide 94 = .ok (.bipush 19, 2) := by decide +kernel
theorem dc_R_divide_96 : decode bc_R_divide 96 = .ok (.iload 4, 2) := by decide +kernel
theorem dc_R_divide_98 : decode bc_R_divide 98 = .ok (.invokevirtual 64, 3) := by decide +kernel
theorem dc_R_divide_101 : decode bc_R_divide 101 = .ok (.aload_n 0, 1) := by decide +kernel
theorem dc_R_divide_102 : decode bc_R_divide 102 = .ok (.bipush 16, 2) := by decide +kernel
theorem dc_R_divide_104 : decode bc_R_divide 104 = .ok (.bipush 17, 2) := by decide +kernel
theorem dc_R_divide_106 : decode bc_R_divide 106 = .ok (.bipush 18, 2) := by decide +kernel
theorem dc_R_divide_108 : decode bc_R_divide 108 = .ok (.bipush 19, 2) := by decide +kernel
theorem dc_R_divide_110 : decode bc_R_divide 110 = .ok (.invokevirtual 89, 3) := by decide +kernel
theorem dc_R_divide_113 : decode bc_R_divide 113 = .ok (.iload 5, 2) := by decide +kernel
theorem dc_R_divide_115 : decode bc_R_divide 115 = .ok (.ifCond .eq 22, 3) := by decide +kernel
theorem dc_R_divide_118 : decode bc_R_divide 118 = .ok (.iload 6, 2) := by decide +kernel
theorem dc_R_divide_120 : decode bc_R_divide 120 = .ok (.ifCond .eq 17, 3) := by decide +kernel
theorem dc_R_divide_123 : decode bc_R_divide 123 = .ok (.aload_n 0, 1) := by decide +kernel
theorem dc_R_divide_124 : decode bc_R_divide 124 = .ok (.getfield 14, 3) := by decide +kernel
theorem dc_R_divide_127 : decode bc_R_divide 127 = .ok (.bipush 17, 2) := by decide +kernel
theorem dc_R_divide_129 : decode bc_R_divide 129 = .ok (.iaload, 1) := by decide +kernel
theorem dc_R_divide_130 : decode bc_R_divide 130 = .ok (.ifCond .le 7, 3) := by decide +kernel
theorem dc_R_divide_133 : decode bc_R_divide 133 = .ok (.iconst 1, 1) := by decide +kernel
theorem dc_R_divide_134 : decode bc_R_divide 134 = .ok (.goto 4, 3) := by decide +kernel
theorem dc_R_divide_137 : decode bc_R_divide 137 = .ok (.iconst 0, 1) := by decide +kernel
theorem dc_R_divide_138 : decode bc_R_divide 138 = .ok (.istore 9, 2) := by decide +kernel
theorem dc_R_divide_140 : decode bc_R_divide 140 = .ok (.iload 9, 2) := by decide +kernel
theorem dc_R_divide_142 : decode bc_R_divide 142 = .ok (.ifCond .eq 30, 3) := by decide +kernel
theorem dc_R_divide_145 : decode bc_R_divide 145 = .ok (.aload_n 0, 1) := by decide +kernel
theorem dc_R_divide_146 : decode bc_R_divide 146 = .ok (.bipush 20, 2) := by decide +kernel
theorem dc_R_divide_148 : decode bc_R_divide 148 = .ok (.lconst 1, 1) := by decide +kernel
theorem dc_R_divide_149 : decode bc_R_divide 149 = .ok (.invokevirtual 71, 3) := by decide +kernel
theorem dc_R_divide_152 : decode bc_R_divide 152 = .ok (.aload_n 0, 1) := by decide +kernel
theorem dc_R_divide_153 : decode bc_R_divide 153 = .ok (.bipush 16, 2) := by decide +kernel
theorem dc_R_divide_155 : decode bc_R_divide 155 = .ok (.bipush 16, 2) := by decide +kernel
theorem dc_R_divide_157 : decode bc_R_divide 157 = .ok (.bipush 20, 2) := by decide +kernel
theorem dc_R_divide_159 : decode bc_R_divide 159 = .ok (.invokevirtual 79, 3) := by decide +kernel
theorem dc_R_divide_162 : decode bc_R_divide 162 = .ok (.aload_n 0, 1) := by decide +kernel
theorem dc_R_divide_163 : decode bc_R_divide 163 = .ok (.bipush 17, 2) := by decide +kernel
theorem dc_R_divide_165 : decode bc_R_divide 165 = .ok (.bipush 19, 2) := by decide +kernel
theorem dc_R_divide_167 : decode bc_R_divide 167 = .ok (.bipush 17, 2) := by decide +kernel
theorem dc_R_divide_169 : decode bc_R_divide 169 = .ok (.invokevirtual 57, 3) := by decide +kernel
theorem dc_R_divide_172 : decode bc_R_divide 172 = .ok (.aload_n 0, 1) := by decide +kernel
theorem dc_R_divide_173 : decode bc_R_divide 173 = .ok (.iload_n 1, 1) := by decide +kernel
theorem dc_R_divide_174 : decode bc_R_divide 174 = .ok (.bipush 16, 2) := by decide +kernel
theorem dc_R_divide_176 : decode bc_R_divide 176 = .ok (.iload 6, 2) := by decide +kernel
theorem dc_R_divide_178 : decode bc_R_divide 178 = .ok (.invokevirtual 75, 3) := by decide +kernel
theorem dc_R_divide_181 : decode bc_R_divide 181 = .ok (.ifCond .eq 29, 3) := by decide +kernel
theorem dc_R_divide_184 : decode bc_R_divide 184 = .ok (.aload_n 0, 1) := by decide +kernel
theorem dc_R_divide_185 : decode bc_R_divide 185 = .ok (.iload_n 2, 1) := by decide +kernel
theorem dc_R_divide_186 : decode bc_R_divide 186 = .ok (.bipush 17, 2) := by decide +kernel
theorem dc_R_divide_188 : decode bc_R_divide 188 = .ok (.iload 9, 2) := by decide +kernel
theorem dc_R_divide_190 : decode bc_R_divide 190 = .ok (.ifCond .eq 8, 3) := by decide +kernel
theorem dc_R_divide_193 : decode bc_R_divide 193 = .ok (.iload 8, 2) := by decide +kernel
theorem dc_R_divide_195 : decode bc_R_divide 195 = .ok (.goto 5, 3) := by decide +kernel
theorem dc_R_divide_198 : decode bc_R_divide 198 = .ok (.iload 7, 2) := by decide +kernel
theorem dc_R_divide_200 : decode bc_R_divide 200 = .ok (.invokevirtual 75, 3) := by decide +kernel
theorem dc_R_divide_203 : decode bc_R_divide 203 = .ok (.ifCond .eq 7, 3) := by decide +kernel
theorem dc_R_divide_206 : decode bc_R_divide 206 = .ok (.iconst 1, 1) := by decide +kernel
theorem dc_R_divide_207 : decode bc_R_divide 207 = .ok (.goto 4, 3) := by decide +kernel
theorem dc_R_divide_210 : decode bc_R_divide 210 = .ok (.iconst 0, 1) := by decide +kernel
theorem dc_R_divide_211 : decode bc_R_divide 211 = .ok (.ireturn, 1) := by decide +kernel
theorem dc_R_quotient_0 : decode bc_R_quotient 0 = .ok (.aload_n 0, 1) := by decide +kernel
theorem dc_R_quotient_1 : decode bc_R_quotient 1 = .ok (.iload_n 3, 1) := by decide +kernel
theorem dc_R_quotient_2 : decode bc_R_quotient 2 = .ok (.invokevirtual 41, 3) := by decide +kernel
theorem dc_R_quotient_5 : decode bc_R_quotient 5 = .ok (.aload_n 0, 1) := by decide +kernel
theorem dc_R_quotient_6 : decode bc_R_quotient 6 = .ok (.iload 4, 2) := by decide +kernel
theorem dc_R_quotient_8 : decode bc_R_quotient 8 = .ok (.invokevirtual 41, 3) := by decide +kernel
theorem dc_R_quotient_11 : decode bc_R_quotient 11 = .ok (.isub, 1) := by decide +kernel
theorem dc_R_quotient_12 : decode bc_R_quotient 12 = .ok (.iconst 1, 1) := by decide +kernel
theorem dc_R_quotient_13 : decode bc_R_quotient 13 = .ok (.iadd, 1) := by decide +kernel
theorem dc_R_quotient_14 : decode bc_R_quotient 14 = .ok (.istore 5, 2) := by decide +kernel
theorem dc_R_quotient_16 : decode bc_R_quotient 16 = .ok (.iconst 0, 1) := by decide +kernel
theorem dc_R_quotient_17 : decode bc_R_quotient 17 = .ok (.istore 6, 2) := by decide +kernel
theorem dc_R_quotient_19 : decode bc_R_quotient 19 = .ok (.iload 6, 2) := by decide +kernel
theorem dc_R_quotient_21 : decode bc_R_quotient 21 = .ok (.aload_n 0, 1) := by decide +kernel
theorem dc_R_quotient_22 : decode bc_R_quotient 22 = .ok (.getfield 14, 3) := by decide +kernel
theorem dc_R_quotient_25 : decode bc_R_quotient 25 = .ok (.iload_n 3, 1) := by decide +kernel
theorem dc_R_quotient_26 : decode bc_R_quotient 26 = .ok (.iaload, 1) := by decide +kernel
theorem dc_R_quotient_27 : decode bc_R_quotient 27 = .ok (.if_icmp .gt 22, 3) := by decide +kernel
theorem dc_R_quotient_30 : decode bc_R_quotient 30 = .ok (.aload_n 0, 1) := by decide +kernel
theorem dc_R_quotient_31 : decode bc_R_quotient 31 = .ok (.getfield 8, 3) := by decide +kernel
theorem dc_R_quotient_34 : decode bc_R_quotient 34 = .ok (.iload_n 1, 1) := by decide +kernel
theorem dc_R_quotient_35 : decode bc_R_quotient 35 = .ok (.invokestatic 22, 3) := by decide +kernel
theorem dc_R_quotient_38 : decode bc_R_quotient 38 = .ok (.iload 6, 2) := by decide +kernel
theorem dc_R_quotient_40 : decode bc_R_quotient 40 = .ok (.iadd, 1) := by decide +kernel
theorem dc_R_quotient_41 : decode bc_R_quotient 41 = .ok (.iconst 0, 1) := by decide +kernel
theorem dc_R_quotient_42 : decode bc_R_quotient 42 = .ok (.iastore, 1) := by decide +kernel
theorem dc_R_quotient_43 : decode bc_R_quotient 43 = .ok (.iinc 6 1, 3) := by decide +kernel
theorem dc_R_quotient_46 : decode bc_R_quotient 46 = .ok (.goto (-27), 3) := by decide +kernel
theorem dc_R_quotient_49 : decode bc_R_quotient 49 = .ok (.aload_n 0, 1) := by decide +kernel
theorem dc_R_quotient_50 : decode bc_R_quotient 50 = .ok (.iload_n 2, 1) := by decide +kernel
theorem dc_R_quotient_51 : decode bc_R_quotient 51 = .ok (.iload_n 3, 1) := by decide +kernel
theorem dc_R_quotient_52 : decode bc_R_quotient 52 = .ok (.iload 5, 2) := by decide +kernel
theorem dc_R_quotient_54 : decode bc_R_quotient 54 = .ok (.ifCond .le 9, 3) := by decide +kernel
theorem dc_R_quotient_57 : decode bc_R_quotient 57 = .ok (.iload 5, 2) := by decide +kernel
theorem dc_R_quotient_59 : decode bc_R_quotient 59 = .ok (.i2l, 1) := by decide +kernel
theorem dc_R_quotient_60 : decode bc_R_quotient 60 = .ok (.goto 4, 3) := by decide +kernel
theorem dc_R_quotient_63 : decode bc_R_quotient 63 = .ok (.lconst 0, 1) := by decide +kernel
theorem dc_R_quotient_64 : decode bc_R_quotient 64 = .ok (.invokevirtual 44, 3) := by decide +kernel
theorem dc_R_quotient_67 : decode bc_R_quotient 67 = .ok (.iload 5, 2) := by decide +kernel
theorem dc_R_quotient_69 : decode bc_R_quotient 69 = .ok (.iconst 1, 1) := by decide +kernel
theorem dc_R_quotient_70 : decode bc_R_quotient 70 = .ok (.isub, 1) := by decide +kernel
theorem dc_R_quotient_71 : decode bc_R_quotient 71 = .ok (.istore 6, 2) := by decide +kernel
theorem dc_R_quotient_73 : decode bc_R_quotient 73 = .ok (.iload 6, 2) := by decide +kernel
theorem dc_R_quotient_75 : decode bc_R_quotient 75 = .ok (.ifCond .lt 78, 3) := by decide +kernel
theorem dc_R_quotient_78 : decode bc_R_quotient 78 = .ok (.aload_n 0, 1) := by decide +kernel
theorem dc_R_quotient_79 : decode bc_R_quotient 79 = .ok (.iload_n 2, 1) := by decide +kernel
theorem dc_R_quotient_80 : decode bc_R_quotient 80 = .ok (.aload_n 0, 1) := by decide +kernel
theorem dc_R_quotient_81 : decode bc_R_quotient 81 = .ok (.iload_n 3, 1) := by decide +kernel
theorem dc_R_quotient_82 : decode bc_R_quotient 82 = .ok (.iload 6, 2) := by decide +kernel
theorem dc_R_quotient_84 : decode bc_R_quotient 84 = .ok (.invokevirtual 48, 3) := by decide +kernel
theorem dc_R_quotient_87 : decode bc_R_quotient 87 = .ok (.invokevirtual 51, 3) := by decide +kernel
theorem dc_R_quotient_90 : decode bc_R_quotient 90 = .ok (.aload_n 0, 1) := by decide +kernel
theorem dc_R_quotient_91 : decode bc_R_quotient 91 = .ok (.iload_n 2, 1) := by decide +kernel
theorem dc_R_quotient_92 : decode bc_R_quotient 92 = .ok (.iload 4, 2) := by decide +kernel
theorem dc_R_quotient_94 : decode bc_R_quotient 94 = .ok (.invokevirtual 54, 3) := by decide +kernel
theorem dc_R_quotient_97 : decode bc_R_quotient 97 = .ok (.ifCond .ge 6, 3) := by decide +kernel
theorem dc_R_quotient_100 : decode bc_R_quotient 100 = .ok (.goto 47, 3) := by decide +kernel
theorem dc_R_quotient_103 : decode bc_R_quotient 103 = .ok (.aload_n 0, 1) := by decide +kernel
theorem dc_R_quotient_104 : decode bc_R_quotient 104 = .ok (.iload_n 2, 1) := by decide +kernel
theorem dc_R_quotient_105 : decode bc_R_quotient 105 = .ok (.iload_n 2, 1) := by decide +kernel
theorem dc_R_quotient_106 : decode bc_R_quotient 106 = .ok (.iload 4, 2) := by decide +kernel
theorem dc_R_quotient_108 : decode bc_R_quotient 108 = .ok (.invokevirtual 57, 3) := by decide +kernel
theorem dc_R_quotient_111 : decode bc_R_quotient 111 = .ok (.aload_n 0, 1) := by decide +kernel
theorem dc_R_quotient_112 : decode bc_R_quotient 112 = .ok (.getfield 8, 3) := by decide +kernel
theorem dc_R_quotient_115 : decode bc_R_quotient 115 = .ok (.iload_n 1, 1) := by decide +kernel
theorem dc_R_quotient_116 : decode bc_R_quotient 116 = .ok (.invokestatic 22, 3) := by decide +kernel
theorem dc_R_quotient_119 : decode bc_R_quotient 119 = .ok (.iload 6, 2) := by decide +kernel
theorem dc_R_quotient_121 : decode bc_R_quotient 121 = .ok (.iconst 4, 1) := by decide +kernel
theorem dc_R_quotient_122 : decode bc_R_quotient 122 = .ok (.ishr, 1) := by decide +kernel
theorem dc_R_quotient_123 : decode bc_R_quotient 123 = .ok (.iadd, 1) := by decide +kernel
theorem dc_R_quotient_124 : decode bc_R_quotient 124 = .ok (.aload_n 0, 1) := by decide +kernel
theorem dc_R_quotient_125 : decode bc_R_quotient 125 = .ok (.getfield 8, 3) := by decide +kernel
theorem dc_R_quotient_128 : decode bc_R_quotient 128 = .ok (.iload_n 1, 1) := by decide +kernel
theorem dc_R_quotient_129 : decode bc_R_quotient 129 = .ok (.invokestatic 22, 3) := by decide +kernel
theorem dc_R_quotient_132 : decode bc_R_quotient 132 = .ok (.iload 6, 2) := by decide +kernel
theorem dc_R_quotient_134 : decode bc_R_quotient 134 = .ok (.iconst 4, 1) := by decide +kernel
theorem dc_R_quotient_135 : decode bc_R_quotient 135 = .ok (.ishr, 1) := by decide +kernel
theorem dc_R_quotient_136 : decode bc_R_quotient 136 = .ok (.iadd, 1) := by decide +kernel
theorem dc_R_quotient_137 : decode bc_R_quotient 137 = .ok (.iaload, 1) := by decide +kernel
theorem dc_R_quotient_138 : decode bc_R_quotient 138 = .ok (.iconst 1, 1) := by decide +kernel
theorem dc_R_quotient_139 : decode bc_R_quotient 139 = .ok (.iload 6, 2) := by decide +kernel
theorem dc_R_quotient_141 : decode bc_R_quotient 141 = .ok (.bipush 15, 2) := by decide +kernel
theorem dc_R_quotient_143 : decode bc_R_quotient 143 = .ok (.iand, 1) := by decide +kernel
theorem dc_R_quotient_144 : decode bc_R_quotient 144 = .ok (.ishl, 1) := by decide +kernel
theorem dc_R_quotient_145 : decode bc_R_quotient 145 = .ok (.ior, 1) := by decide +kernel
theorem dc_R_quotient_146 : decode bc_R_quotient 146 = .ok (.iastore, 1) := by decide +kernel
theorem dc_R_quotient_147 : decode bc_R_quotient 147 = .ok (.iinc 6 (-1), 3) := by decide +kernel
theorem dc_R_quotient_150 : decode bc_R_quotient 150 = .ok (.goto (-77), 3) := by decide +kernel
theorem dc_R_quotient_153 : decode bc_R_quotient 153 = .ok (.aload_n 0, 1) := by decide +kernel
theorem dc_R_quotient_154 : decode bc_R_quotient 154 = .ok (.iload_n 1, 1) := by decide +kernel
theorem dc_R_quotient_155 : decode bc_R_quotient 155 = .ok (.aload_n 0, 1) := by decide +kernel
theorem dc_R_quotient_156 : decode bc_R_quotient 156 = .ok (.getfield 14, 3) := by decide +kernel
theorem dc_R_quotient_159 : decode bc_R_quotient 159 = .ok (.iload_n 3, 1) := by decide +kernel
theorem dc_R_quotient_160 : decode bc_R_quotient 160 = .ok (.iaload, 1) := by decide +kernel
theorem dc_R_quotient_161 : decode bc_R_quotient 161 = .ok (.invokevirtual 28, 3) := by decide +kernel
theorem dc_R_quotient_164 : decode bc_R_quotient 164 = .ok (.return_, 1) := by decide +kernel
theorem dc_R_bitsOf_0 : decode bc_R_bitsOf 0 = .ok (.aload_n 0, 1) := by decide +kernel
theorem dc_R_bitsOf_1 : decode bc_R_bitsOf 1 = .ok (.getfield 14, 3) := by decide +kernel
theorem dc_R_bitsOf_4 : decode bc_R_bitsOf 4 = .ok (.iload_n 1, 1) := by decide +kernel
theorem dc_R_bitsOf_5 : decode bc_R_bitsOf 5 = .ok (.iaload, 1) := by decide +kernel
theorem dc_R_bitsOf_6 : decode bc_R_bitsOf 6 = .ok (.ifCond .ne 5, 3) := by decide +kernel
theorem dc_R_bitsOf_9 : decode bc_R_bitsOf 9 = .ok (.iconst 0, 1) := by decide +kernel
theorem dc_R_bitsOf_10 : decode bc_R_bitsOf 10 = .ok (.ireturn, 1) := by decide +kernel
theorem dc_R_bitsOf_11 : decode bc_R_bitsOf 11 = .ok (.bipush 16, 2) := by decide +kernel
theorem dc_R_bitsOf_13 : decode bc_R_bitsOf 13 = .ok (.aload_n 0, 1) := by decide +kernel
theorem dc_R_bitsOf_14 : decode bc_R_bitsOf 14 = .ok (.getfield 14, 3) := by decide +kernel
theorem dc_R_bitsOf_17 : decode bc_R_bitsOf 17 = .ok (.iload_n 1, 1) := by decide +kernel
theorem dc_R_bitsOf_18 : decode bc_R_bitsOf 18 = .ok (.iaload, 1) := by decide +kernel
theorem dc_R_bitsOf_19 : decode bc_R_bitsOf 19 = .ok (.iconst 1, 1) := by decide +kernel
theorem dc_R_bitsOf_20 : decode bc_R_bitsOf 20 = .ok (.isub, 1) := by decide +kernel
theorem dc_R_bitsOf_21 : decode bc_R_bitsOf 21 = .ok (.imul, 1) := by decide +kernel
theorem dc_R_bitsOf_22 : decode bc_R_bitsOf 22 = .ok (.istore_n 2, 1) := by decide +kernel
theorem dc_R_bitsOf_23 : decode bc_R_bitsOf 23 = .ok (.aload_n 0, 1) := by decide +kernel
theorem dc_R_bitsOf_24 : decode bc_R_bitsOf 24 = .ok (.getfield 8, 3) := by decide +kernel
theorem dc_R_bitsOf_27 : decode bc_R_bitsOf 27 = .ok (.iload_n 1, 1) := by decide +kernel
theorem dc_R_bitsOf_28 : decode bc_R_bitsOf 28 = .ok (.invokestatic 22, 3) := by decide +kernel
theorem dc_R_bitsOf_31 : decode bc_R_bitsOf 31 = .ok (.aload_n 0, 1) := by decide +kernel
theorem dc_R_bitsOf_32 : decode bc_R_bitsOf 32 = .ok (.getfield 14, 3) := by decide +kernel
theorem dc_R_bitsOf_35 : decode bc_R_bitsOf 35 = .ok (.iload_n 1, 1) := by decide +kernel
theorem dc_R_bitsOf_36 : decode bc_R_bitsOf 36 = .ok (.iaload, 1) := by decide +kernel
theorem dc_R_bitsOf_37 : decode bc_R_bitsOf 37 = .ok (.iadd, 1) := by decide +kernel
theorem dc_R_bitsOf_38 : decode bc_R_bitsOf 38 = .ok (.iconst 1, 1) := by decide +kernel
theorem dc_R_bitsOf_39 : decode bc_R_bitsOf 39 = .ok (.isub, 1) := by decide +kernel
theorem dc_R_bitsOf_40 : decode bc_R_bitsOf 40 = .ok (.iaload, 1) := by decide +kernel
theorem dc_R_bitsOf_41 : decode bc_R_bitsOf 41 = .ok (.istore_n 3, 1) := by decide +kernel
theorem dc_R_bitsOf_42 : decode bc_R_bitsOf 42 = .ok (.iload_n 3, 1) := by decide +kernel
theorem dc_R_bitsOf_43 : decode bc_R_bitsOf 43 = .ok (.ifCond .le 13, 3) := by decide +kernel
theorem dc_R_bitsOf_46 : decode bc_R_bitsOf 46 = .ok (.iinc 2 1, 3) := by decide +kernel
theorem dc_R_bitsOf_49 : decode bc_R_bitsOf 49 = .ok (.iload_n 3, 1) := by decide +kernel
theorem dc_R_bitsOf_50 : decode bc_R_bitsOf 50 = .ok (.iconst 1, 1) := by decide +kernel
theorem dc_R_bitsOf_51 : decode bc_R_bitsOf 51 = .ok (.ishr, 1) := by decide +kernel
theorem dc_R_bitsOf_52 : decode bc_R_bitsOf 52 = .ok (.istore_n 3, 1) := by decide +kernel
theorem dc_R_bitsOf_53 : decode bc_R_bitsOf 53 = .ok (.goto (-11), 3) := by decide +kernel
theorem dc_R_bitsOf_56 : decode bc_R_bitsOf 56 = .ok (.iload_n 2, 1) := by decide +kernel
theorem dc_R_bitsOf_57 : decode bc_R_bitsOf 57 = .ok (.ireturn, 1) := by decide +kernel
theorem dc_R_lower_0 : decode bc_R_lower 0 = .ok (.aload_n 0, 1) := by decide +kernel
theorem dc_R_lower_1 : decode bc_R_lower 1 = .ok (.getfield 14, 3) := by decide +kernel
theorem dc_R_lower_4 : decode bc_R_lower 4 = .ok (.iload_n 2, 1) := by decide +kernel
theorem dc_R_lower_5 : decode bc_R_lower 5 = .ok (.iaload, 1) := by decide +kernel
theorem dc_R_lower_6 : decode bc_R_lower 6 = .ok (.i2l, 1) := by decide +kernel
theorem dc_R_lower_7 : decode bc_R_lower 7 = .ok (.lload_n 3, 1) := by decide +kernel
theorem dc_R_lower_8 : decode bc_R_lower 8 = .ok (.ldc2_w 37, 3) := by decide +kernel
theorem dc_R_lower_11 : decode bc_R_lower 11 = .ok (.ldiv, 1) := by decide +kernel
theorem dc_R_lower_12 : decode bc_R_lower 12 = .ok (.lsub, 1) := by decide +kernel
theorem dc_R_lower_13 : decode bc_R_lower 13 = .ok (.lstore 5, 2) := by decide +kernel
theorem dc_R_lower_15 : decode bc_R_lower 15 = .ok (.lload_n 3, 1) := by decide +kernel
theorem dc_R_lower_16 : decode bc_R_lower 16 = .ok (.ldc2_w 37, 3) := by decide +kernel
theorem dc_R_lower_19 : decode bc_R_lower 19 = .ok (.lrem, 1) := by decide +kernel
theorem dc_R_lower_20 : decode bc_R_lower 20 = .ok (.l2i, 1) := by decide +kernel
theorem dc_R_lower_21 : decode bc_R_lower 21 = .ok (.istore 7, 2) := by decide +kernel
theorem dc_R_lower_23 : decode bc_R_lower 23 = .ok (.lload_n 3, 1) := by decide +kernel
theorem dc_R_lower_24 : decode bc_R_lower 24 = .ok (.ldc2_w 37, 3) := by decide +kernel
theorem dc_R_lower_27 : decode bc_R_lower 27 = .ok (.ldiv, 1) := by decide +kernel
theorem dc_R_lower_28 : decode bc_R_lower 28 = .ok (.ldc2_w 39, 3) := by decide +kernel
theorem dc_R_lower_31 : decode bc_R_lower 31 = .ok (.lcmp, 1) := by decide +kernel
theorem dc_R_lower_32 : decode bc_R_lower 32 = .ok (.ifCond .ge 11, 3) := by decide +kernel
theorem dc_R_lower_35 : decode bc_R_lower 35 = .ok (.lload_n 3, 1) := by decide +kernel
theorem dc_R_lower_36 : decode bc_R_lower 36 = .ok (.ldc2_w 37, 3) := by decide +kernel
theorem dc_R_lower_39 : decode bc_R_lower 39 = .ok (.ldiv, 1) := by decide +kernel
theorem dc_R_lower_40 : decode bc_R_lower 40 = .ok (.goto 6, 3) := by decide +kernel
theorem dc_R_lower_43 : decode bc_R_lower 43 = .ok (.ldc2_w 39, 3) := by decide +kernel
theorem dc_R_lower_46 : decode bc_R_lower 46 = .ok (.l2i, 1) := by decide +kernel
theorem dc_R_lower_47 : decode bc_R_lower 47 = .ok (.istore 8, 2) := by decide +kernel
theorem dc_R_lower_49 : decode bc_R_lower 49 = .ok (.aload_n 0, 1) := by decide +kernel
theorem dc_R_lower_50 : decode bc_R_lower 50 = .ok (.getfield 14, 3) := by decide +kernel
theorem dc_R_lower_53 : decode bc_R_lower 53 = .ok (.iload_n 1, 1) := by decide +kernel
theorem dc_R_lower_54 : decode bc_R_lower 54 = .ok (.iconst 0, 1) := by decide +kernel
theorem dc_R_lower_55 : decode bc_R_lower 55 = .ok (.iastore, 1) := by decide +kernel
theorem dc_R_lower_56 : decode bc_R_lower 56 = .ok (.lload 5, 2) := by decide +kernel
theorem dc_R_lower_58 : decode bc_R_lower 58 = .ok (.lconst 0, 1) := by decide +kernel
theorem dc_R_lower_59 : decode bc_R_lower 59 = .ok (.lcmp, 1) := by decide +kernel
theorem dc_R_lower_60 : decode bc_R_lower 60 = .ok (.ifCond .gt 4, 3) := by decide +kernel
theorem dc_R_lower_63 : decode bc_R_lower 63 = .ok (.return_, 1) := by decide +kernel
theorem dc_R_lower_64 : decode bc_R_lower 64 = .ok (.iconst 0, 1) := by decide +kernel
theorem dc_R_lower_65 : decode bc_R_lower 65 = .ok (.istore 9, 2) := by decide +kernel
theorem dc_R_lower_67 : decode bc_R_lower 67 = .ok (.iload 9, 2) := by decide +kernel
theorem dc_R_lower_69 : decode bc_R_lower 69 = .ok (.i2l, 1) := by decide +kernel
theorem dc_R_lower_70 : decode bc_R_lower 70 = .ok (.lload 5, 2) := by decide +kernel
theorem dc_R_lower_72 : decode bc_R_lower 72 = .ok (.lcmp, 1) := by decide +kernel
theorem dc_R_lower_73 : decode bc_R_lower 73 = .ok (.ifCond .ge 53, 3) := by decide +kernel
theorem dc_R_lower_76 : decode bc_R_lower 76 = .ok (.aload_n 0, 1) := by decide +kernel
theorem dc_R_lower_77 : decode bc_R_lower 77 = .ok (.getfield 8, 3) := by decide +kernel
theorem dc_R_lower_80 : decode bc_R_lower 80 = .ok (.iload_n 1, 1) := by decide +kernel
theorem dc_R_lower_81 : decode bc_R_lower 81 = .ok (.invokestatic 22, 3) := by decide +kernel
theorem dc_R_lower_84 : decode bc_R_lower 84 = .ok (.iload 9, 2) := by decide +kernel
theorem dc_R_lower_86 : decode bc_R_lower 86 = .ok (.iadd, 1) := by decide +kernel
theorem dc_R_lower_87 : decode bc_R_lower 87 = .ok (.aload_n 0, 1) := by decide +kernel
theorem dc_R_lower_88 : decode bc_R_lower 88 = .ok (.iload_n 2, 1) := by decide +kernel
theorem dc_R_lower_89 : decode bc_R_lower 89 = .ok (.iload 8, 2) := by decide +kernel
theorem dc_R_lower_91 : decode bc_R_lower 91 = .ok (.iload 9, 2) := by decide +kernel
theorem dc_R_lower_93 : decode bc_R_lower 93 = .ok (.iadd, 1) := by decide +kernel
theorem dc_R_lower_94 : decode bc_R_lower 94 = .ok (.invokevirtual 32, 3) := by decide +kernel
theorem dc_R_lower_97 : decode bc_R_lower 97 = .ok (.aload_n 0, 1) := by decide +kernel
theorem dc_R_lower_98 : decode bc_R_lower 98 = .ok (.iload_n 2, 1) := by decide +kernel
theorem dc_R_lower_99 : decode bc_R_lower 99 = .ok (.iload 8, 2) := by decide +kernel
theorem dc_R_lower_101 : decode bc_R_lower 101 = .ok (.iload 9, 2) := by decide +kernel
theorem dc_R_lower_103 : decode bc_R_lower 103 = .ok (.iadd, 1) := by decide +kernel
theorem dc_R_lower_104 : decode bc_R_lower 104 = .ok (.iconst 1, 1) := by decide +kernel
theorem dc_R_lower_105 : decode bc_R_lower 105 = .ok (.iadd, 1) := by decide +kernel
theorem dc_R_lower_106 : decode bc_R_lower 106 = .ok (.invokevirtual 32, 3) := by decide +kernel
theorem dc_R_lower_109 : decode bc_R_lower 109 = .ok (.bipush 16, 2) := by decide +kernel
theorem dc_R_lower_111 : decode bc_R_lower 111 = .ok (.ishl, 1) := by decide +kernel
theorem dc_R_lower_112 : decode bc_R_lower 112 = .ok (.ior, 1) := by decide +kernel
theorem dc_R_lower_113 : decode bc_R_lower 113 = .ok (.iload 7, 2) := by decide +kernel
theorem dc_R_lower_115 : decode bc_R_lower 115 = .ok (.iushr, 1) := by decide +kernel
theorem dc_R_lower_116 : decode bc_R_lower 116 = .ok (.ldc 36, 2) := by decide +kernel
theorem dc_R_lower_118 : decode bc_R_lower 118 = .ok (.iand, 1) := by decide +kernel
theorem dc_R_lower_119 : decode bc_R_lower 119 = .ok (.iastore, 1) := by decide +kernel
theorem dc_R_lower_120 : decode bc_R_lower 120 = .ok (.iinc 9 1, 3) := by decide +kernel
theorem dc_R_lower_123 : decode bc_R_lower 123 = .ok (.goto (-56), 3) := by decide +kernel
theorem dc_R_lower_126 : decode bc_R_lower 126 = .ok (.aload_n 0, 1) := by decide +kernel
theorem dc_R_lower_127 : decode bc_R_lower 127 = .ok (.iload_n 1, 1) := by decide +kernel
theorem dc_R_lower_128 : decode bc_R_lower 128 = .ok (.lload 5, 2) := by decide +kernel
theorem dc_R_lower_130 : decode bc_R_lower 130 = .ok (.l2i, 1) := by decide +kernel
theorem dc_R_lower_131 : decode bc_R_lower 131 = .ok (.invokevirtual 28, 3) := by decide +kernel
theorem dc_R_lower_134 : decode bc_R_lower 134 = .ok (.return_, 1) := by decide +kernel
theorem dc_R_bitOf_0 : decode bc_R_bitOf 0 = .ok (.aload_n 0, 1) := by decide +kernel
theorem dc_R_bitOf_1 : decode bc_R_bitOf 1 = .ok (.iload_n 1, 1) := by decide +kernel
theorem dc_R_bitOf_2 : decode bc_R_bitOf 2 = .ok (.iload_n 2, 1) := by decide +kernel
theorem dc_R_bitOf_3 : decode bc_R_bitOf 3 = .ok (.iconst 4, 1) := by decide +kernel
theorem dc_R_bitOf_4 : decode bc_R_bitOf 4 = .ok (.ishr, 1) := by decide +kernel
theorem dc_R_bitOf_5 : decode bc_R_bitOf 5 = .ok (.invokevirtual 32, 3) := by decide +kernel
theorem dc_R_bitOf_8 : decode bc_R_bitOf 8 = .ok (.iload_n 2, 1) := by decide +kernel
theorem dc_R_bitOf_9 : decode bc_R_bitOf 9 = .ok (.bipush 15, 2) := by decide +kernel
theorem dc_R_bitOf_11 : decode bc_R_bitOf 11 = .ok (.iand, 1) := by decide +kernel
theorem dc_R_bitOf_12 : decode bc_R_bitOf 12 = .ok (.ishr, 1) := by decide +kernel
theorem dc_R_bitOf_13 : decode bc_R_bitOf 13 = .ok (.iconst 1, 1) := by decide +kernel
theorem dc_R_bitOf_14 : decode bc_R_bitOf 14 = .ok (.iand, 1) := by decide +kernel
theorem dc_R_bitOf_15 : decode bc_R_bitOf 15 = .ok (.ireturn, 1) := by decide +kernel
theorem dc_R_twice_0 : decode bc_R_twice 0 = .ok (.iload_n 2, 1) := by decide +kernel
theorem dc_R_twice_1 : decode bc_R_twice 1 = .ok (.istore_n 3, 1) := by decide +kernel
theorem dc_R_twice_2 : decode bc_R_twice 2 = .ok (.iconst 0, 1) := by decide +kernel
theorem dc_R_twice_3 : decode bc_R_twice 3 = .ok (.istore 4, 2) := by decide +kernel
theorem dc_R_twice_5 : decode bc_R_twice 5 = .ok (.iload 4, 2) := by decide +kernel
theorem dc_R_twice_7 : decode bc_R_twice 7 = .ok (.aload_n 0, 1) := by decide +kernel
theorem dc_R_twice_8 : decode bc_R_twice 8 = .ok (.getfield 14, 3) := by decide +kernel
theorem dc_R_twice_11 : decode bc_R_twice 11 = .ok (.iload_n 1, 1) := by decide +kernel
theorem dc_R_twice_12 : decode bc_R_twice 12 = .ok (.iaload, 1) := by decide +kernel
theorem dc_R_twice_13 : decode bc_R_twice 13 = .ok (.if_icmp .ge 50, 3) := by decide +kernel
theorem dc_R_twice_16 : decode bc_R_twice 16 = .ok (.iconst 2, 1) := by decide +kernel
theorem dc_R_twice_17 : decode bc_R_twice 17 = .ok (.aload_n 0, 1) := by decide +kernel
theorem dc_R_twice_18 : decode bc_R_twice 18 = .ok (.getfield 8, 3) := by decide +kernel
theorem dc_R_twice_21 : decode bc_R_twice 21 = .ok (.iload_n 1, 1) := by decide +kernel
theorem dc_R_twice_22 : decode bc_R_twice 22 = .ok (.invokestatic 22, 3) := by decide +kernel
theorem dc_R_twice_25 : decode bc_R_twice 25 = .ok (.iload 4, 2) := by decide +kernel
theorem dc_R_twice_27 : decode bc_R_twice 27 = .ok (.iadd, 1) := by decide +kernel
theorem dc_R_twice_28 : decode bc_R_twice 28 = .ok (.iaload, 1) := by decide +kernel
theorem dc_R_twice_29 : decode bc_R_twice 29 = .ok (.imul, 1) := by decide +kernel
theorem dc_R_twice_30 : decode bc_R_twice 30 = .ok (.iload_n 3, 1) := by decide +kernel
theorem dc_R_twice_31 : decode bc_R_twice 31 = .ok (.iadd, 1) := by decide +kernel
theorem dc_R_twice_32 : decode bc_R_twice 32 = .ok (.istore 5, 2) := by decide +kernel
theorem dc_R_twice_34 : decode bc_R_twice 34 = .ok (.iload 5, 2) := by decide +kernel
theorem dc_R_twice_36 : decode bc_R_twice 36 = .ok (.bipush 16, 2) := by decide +kernel
theorem dc_R_twice_38 : decode bc_R_twice 38 = .ok (.ishr, 1) := by decide +kernel
theorem dc_R_twice_39 : decode bc_R_twice 39 = .ok (.istore_n 3, 1) := by decide +kernel
theorem dc_R_twice_40 : decode bc_R_twice 40 = .ok (.aload_n 0, 1) := by decide +kernel
theorem dc_R_twice_41 : decode bc_R_twice 41 = .ok (.getfield 8, 3) := by decide +kernel
theorem dc_R_twice_44 : decode bc_R_twice 44 = .ok (.iload_n 1, 1) := by decide +kernel
theorem dc_R_twice_45 : decode bc_R_twice 45 = .ok (.invokestatic 22, 3) := by decide +kernel
theorem dc_R_twice_48 : decode bc_R_twice 48 = .ok (.iload 4, 2) := by decide +kernel
theorem dc_R_twice_50 : decode bc_R_twice 50 = .ok (.iadd, 1) := by decide +kernel
theorem dc_R_twice_51 : decode bc_R_twice 51 = .ok (.iload 5, 2) := by decide +kernel
theorem dc_R_twice_53 : decode bc_R_twice 53 = .ok (.ldc 36, 2) := by decide +kernel
theorem dc_R_twice_55 : decode bc_R_twice 55 = .ok (.iand, 1) := by decide +kernel
theorem dc_R_twice_56 : decode bc_R_twice 56 = .ok (.iastore, 1) := by decide +kernel
theorem dc_R_twice_57 : decode bc_R_twice 57 = .ok (.iinc 4 1, 3) := by decide +kernel
theorem dc_R_twice_60 : decode bc_R_twice 60 = .ok (.goto (-55), 3) := by decide +kernel
theorem dc_R_twice_63 : decode bc_R_twice 63 = .ok (.aload_n 0, 1) := by decide +kernel
theorem dc_R_twice_64 : decode bc_R_twice 64 = .ok (.getfield 8, 3) := by decide +kernel
theorem dc_R_twice_67 : decode bc_R_twice 67 = .ok (.iload_n 1, 1) := by decide +kernel
theorem dc_R_twice_68 : decode bc_R_twice 68 = .ok (.invokestatic 22, 3) := by decide +kernel
theorem dc_R_twice_71 : decode bc_R_twice 71 = .ok (.aload_n 0, 1) := by decide +kernel
theorem dc_R_twice_72 : decode bc_R_twice 72 = .ok (.getfield 14, 3) := by decide +kernel
theorem dc_R_twice_75 : decode bc_R_twice 75 = .ok (.iload_n 1, 1) := by decide +kernel
theorem dc_R_twice_76 : decode bc_R_twice 76 = .ok (.iaload, 1) := by decide +kernel
theorem dc_R_twice_77 : decode bc_R_twice 77 = .ok (.iadd, 1) := by decide +kernel
theorem dc_R_twice_78 : decode bc_R_twice 78 = .ok (.iload_n 3, 1) := by decide +kernel
theorem dc_R_twice_79 : decode bc_R_twice 79 = .ok (.iastore, 1) := by decide +kernel
theorem dc_R_twice_80 : decode bc_R_twice 80 = .ok (.aload_n 0, 1) := by decide +kernel
theorem dc_R_twice_81 : decode bc_R_twice 81 = .ok (.getfield 14, 3) := by decide +kernel
theorem dc_R_twice_84 : decode bc_R_twice 84 = .ok (.iload_n 1, 1) := by decide +kernel
theorem dc_R_twice_85 : decode bc_R_twice 85 = .ok (.dup2, 1) := by decide +kernel
theorem dc_R_twice_86 : decode bc_R_twice 86 = .ok (.iaload, 1) := by decide +kernel
theorem dc_R_twice_87 : decode bc_R_twice 87 = .ok (.iload_n 3, 1) := by decide +kernel
theorem dc_R_twice_88 : decode bc_R_twice 88 = .ok (.iadd, 1) := by decide +kernel
theorem dc_R_twice_89 : decode bc_R_twice 89 = .ok (.iastore, 1) := by decide +kernel
theorem dc_R_twice_90 : decode bc_R_twice 90 = .ok (.return_, 1) := by decide +kernel
theorem dc_R_logic_0 : decode bc_R_logic 0 = .ok (.iload_n 1, 1) := by decide +kernel
theorem dc_R_logic_1 : decode bc_R_logic 1 = .ok (.invokestatic 67, 3) := by decide +kernel
theorem dc_R_logic_4 : decode bc_R_logic 4 = .ok (.ifCond .eq 28, 3) := by decide +kernel
theorem dc_R_logic_7 : decode bc_R_logic 7 = .ok (.iload_n 2, 1) := by decide +kernel
theorem dc_R_logic_8 : decode bc_R_logic 8 = .ok (.invokestatic 67, 3) := by decide +kernel
theorem dc_R_logic_11 : decode bc_R_logic 11 = .ok (.ifCond .eq 21, 3) := by decide +kernel
theorem dc_R_logic_14 : decode bc_R_logic 14 = .ok (.iload_n 3, 1) := by decide +kernel
theorem dc_R_logic_15 : decode bc_R_logic 15 = .ok (.invokestatic 67, 3) := by decide +kernel
theorem dc_R_logic_18 : decode bc_R_logic 18 = .ok (.ifCond .eq 14, 3) := by decide +kernel
theorem dc_R_logic_21 : decode bc_R_logic 21 = .ok (.iload 4, 2) := by decide +kernel
theorem dc_R_logic_23 : decode bc_R_logic 23 = .ok (.ifCond .lt 9, 3) := by decide +kernel
theorem dc_R_logic_26 : decode bc_R_logic 26 = .ok (.iload 4, 2) := by decide +kernel
theorem dc_R_logic_28 : decode bc_R_logic 28 = .ok (.iconst 3, 1) := by decide +kernel
theorem dc_R_logic_29 : decode bc_R_logic 29 = .ok (.if_icmp .le 5, 3) := by decide +kernel
theorem dc_R_logic_32 : decode bc_R_logic 32 = .ok (.iconst 0, 1) := by decide +kernel
theorem dc_R_logic_33 : decode bc_R_logic 33 = .ok (.ireturn, 1) := by decide +kernel
theorem dc_R_logic_34 : decode bc_R_logic 34 = .ok (.aload_n 0, 1) := by decide +kernel
theorem dc_R_logic_35 : decode bc_R_logic 35 = .ok (.getfield 14, 3) := by decide +kernel
theorem dc_R_logic_38 : decode bc_R_logic 38 = .ok (.iload_n 2, 1) := by decide +kernel
theorem dc_R_logic_39 : decode bc_R_logic 39 = .ok (.iaload, 1) := by decide +kernel
theorem dc_R_logic_40 : decode bc_R_logic 40 = .ok (.aload_n 0, 1) := by decide +kernel
theorem dc_R_logic_41 : decode bc_R_logic 41 = .ok (.getfield 14, 3) := by decide +kernel
theorem dc_R_logic_44 : decode bc_R_logic 44 = .ok (.iload_n 3, 1) := by decide +kernel
theorem dc_R_logic_45 : decode bc_R_logic 45 = .ok (.iaload, 1) := by decide +kernel
theorem dc_R_logic_46 : decode bc_R_logic 46 = .ok (.if_icmp .ge 12, 3) := by decide +kernel
theorem dc_R_logic_49 : decode bc_R_logic 49 = .ok (.aload_n 0, 1) := by decide +kernel
theorem dc_R_logic_50 : decode bc_R_logic 50 = .ok (.getfield 14, 3) := by decide +kernel
theorem dc_R_logic_53 : decode bc_R_logic 53 = .ok (.iload_n 3, 1) := by decide +kernel
theorem dc_R_logic_54 : decode bc_R_logic 54 = .ok (.iaload, 1) := by decide +kernel
theorem dc_R_logic_55 : decode bc_R_logic 55 = .ok (.goto 9, 3) := by decide +kernel
theorem dc_R_logic_58 : decode bc_R_logic 58 = .ok (.aload_n 0, 1) := by decide +kernel
theorem dc_R_logic_59 : decode bc_R_logic 59 = .ok (.getfield 14, 3) := by decide +kernel
theorem dc_R_logic_62 : decode bc_R_logic 62 = .ok (.iload_n 2, 1) := by decide +kernel
theorem dc_R_logic_63 : decode bc_R_logic 63 = .ok (.iaload, 1) := by decide +kernel
theorem dc_R_logic_64 : decode bc_R_logic 64 = .ok (.iconst 1, 1) := by decide +kernel
theorem dc_R_logic_65 : decode bc_R_logic 65 = .ok (.iadd, 1) := by decide +kernel
theorem dc_R_logic_66 : decode bc_R_logic 66 = .ok (.istore 5, 2) := by decide +kernel
theorem dc_R_logic_68 : decode bc_R_logic 68 = .ok (.aload_n 0, 1) := by decide +kernel
theorem dc_R_logic_69 : decode bc_R_logic 69 = .ok (.iload_n 2, 1) := by decide +kernel
theorem dc_R_logic_70 : decode bc_R_logic 70 = .ok (.invokevirtual 93, 3) := by decide +kernel
theorem dc_R_logic_73 : decode bc_R_logic 73 = .ok (.istore 6, 2) := by decide +kernel
theorem dc_R_logic_75 : decode bc_R_logic 75 = .ok (.aload_n 0, 1) := by decide +kernel
theorem dc_R_logic_76 : decode bc_R_logic 76 = .ok (.iload_n 3, 1) := by decide +kernel
theorem dc_R_logic_77 : decode bc_R_logic 77 = .ok (.invokevirtual 93, 3) := by decide +kernel
theorem dc_R_logic_80 : decode bc_R_logic 80 = .ok (.istore 7, 2) := by decide +kernel
theorem dc_R_logic_82 : decode bc_R_logic 82 = .ok (.aload_n 0, 1) := by decide +kernel
theorem dc_R_logic_83 : decode bc_R_logic 83 = .ok (.getfield 17, 3) := by decide +kernel
theorem dc_R_logic_86 : decode bc_R_logic 86 = .ok (.iload_n 2, 1) := by decide +kernel
theorem dc_R_logic_87 : decode bc_R_logic 87 = .ok (.baload, 1) := by decide +kernel
theorem dc_R_logic_88 : decode bc_R_logic 88 = .ok (.ifCond .eq 7, 3) := by decide +kernel
theorem dc_R_logic_91 : decode bc_R_logic 91 = .ok (.iconst 1, 1) := by decide +kernel
theorem dc_R_logic_92 : decode bc_R_logic 92 = .ok (.goto 4, 3) := by decide +kernel
theorem dc_R_logic_95 : decode bc_R_logic 95 = .ok (.iconst 0, 1) := by decide +kernel
theorem dc_R_logic_96 : decode bc_R_logic 96 = .ok (.aload_n 0, 1) := by decide +kernel
theorem dc_R_logic_97 : decode bc_R_logic 97 = .ok (.getfield 17, 3) := by decide +kernel
theorem dc_R_logic_100 : decode bc_R_logic 100 = .ok (.iload_n 3, 1) := by decide +kernel
theorem dc_R_logic_101 : decode bc_R_logic 101 = .ok (.baload, 1) := by decide +kernel
theorem dc_R_logic_102 : decode bc_R_logic 102 = .ok (.ifCond .eq 7, 3) := by decide +kernel
theorem dc_R_logic_105 : decode bc_R_logic 105 = .ok (.iconst 1, 1) := by decide +kernel
theorem dc_R_logic_106 : decode bc_R_logic 106 = .ok (.goto 4, 3) := by decide +kernel
theorem dc_R_logic_109 : decode bc_R_logic 109 = .ok (.iconst 0, 1) := by decide +kernel
theorem dc_R_logic_110 : decode bc_R_logic 110 = .ok (.iload 4, 2) := by decide +kernel
theorem dc_R_logic_112 : decode bc_R_logic 112 = .ok (.invokestatic 96, 3) := by decide +kernel
theorem dc_R_logic_115 : decode bc_R_logic 115 = .ok (.iconst 1, 1) := by decide +kernel
theorem dc_R_logic_116 : decode bc_R_logic 116 = .ok (.if_icmp .ne 7, 3) := by decide +kernel
theorem dc_R_logic_119 : decode bc_R_logic 119 = .ok (.iconst 1, 1) := by decide +kernel
theorem dc_R_logic_120 : decode bc_R_logic 120 = .ok (.goto 4, 3) := by decide +kernel
theorem dc_R_logic_123 : decode bc_R_logic 123 = .ok (.iconst 0, 1) := by decide +kernel
theorem dc_R_logic_124 : decode bc_R_logic 124 = .ok (.istore 8, 2) := by decide +kernel
theorem dc_R_logic_126 : decode bc_R_logic 126 = .ok (.iconst 1, 1) := by decide +kernel
theorem dc_R_logic_127 : decode bc_R_logic 127 = .ok (.istore 9, 2) := by decide +kernel
theorem dc_R_logic_129 : decode bc_R_logic 129 = .ok (.iconst 0, 1) := by decide +kernel
theorem dc_R_logic_130 : decode bc_R_logic 130 = .ok (.istore 10, 2) := by decide +kernel
theorem dc_R_logic_132 : decode bc_R_logic 132 = .ok (.iload 10, 2) := by decide +kernel
theorem dc_R_logic_134 : decode bc_R_logic 134 = .ok (.iload 5, 2) := by decide +kernel
theorem dc_R_logic_136 : decode bc_R_logic 136 = .ok (.if_icmp .ge 94, 3) := by decide +kernel
theorem dc_R_logic_139 : decode bc_R_logic 139 = .ok (.aload_n 0, 1) := by decide +kernel
theorem dc_R_logic_140 : decode bc_R_logic 140 = .ok (.iload_n 2, 1) := by decide +kernel
theorem dc_R_logic_141 : decode bc_R_logic 141 = .ok (.iload 10, 2) := by decide +kernel
theorem dc_R_logic_143 : decode bc_R_logic 143 = .ok (.iload 6, 2) := by decide +kernel
theorem dc_R_logic_145 : decode bc_R_logic 145 = .ok (.invokevirtual 100, 3) := by decide +kernel
theorem dc_R_logic_148 : decode bc_R_logic 148 = .ok (.aload_n 0, 1) := by decide +kernel
theorem dc_R_logic_149 : decode bc_R_logic 149 = .ok (.iload_n 3, 1) := by decide +kernel
theorem dc_R_logic_150 : decode bc_R_logic 150 = .ok (.iload 10, 2) := by decide +kernel
theorem dc_R_logic_152 : decode bc_R_logic 152 = .ok (.iload 7, 2) := by decide +kernel
theorem dc_R_logic_154 : decode bc_R_logic 154 = .ok (.invokevirtual 100, 3) := by decide +kernel
theorem dc_R_logic_157 : decode bc_R_logic 157 = .ok (.iload 4, 2) := by decide +kernel
theorem dc_R_logic_159 : decode bc_R_logic 159 = .ok (.invokestatic 96, 3) := by decide +kernel
theorem dc_R_logic_162 : decode bc_R_logic 162 = .ok (.ldc 36, 2) := by decide +kernel
theorem dc_R_logic_164 : decode bc_R_logic 164 = .ok (.iand, 1) := by decide +kernel
theorem dc_R_logic_165 : decode bc_R_logic 165 = .ok (.istore 11, 2) := by decide +kernel
theorem dc_R_logic_167 : decode bc_R_logic 167 = .ok (.iload 8, 2) := by decide +kernel
theorem dc_R_logic_169 : decode bc_R_logic 169 = .ok (.ifCond .eq 14, 3) := by decide +kernel
theorem dc_R_logic_172 : decode bc_R_logic 172 = .ok (.ldc 36, 2) := by decide +kernel
theorem dc_R_logic_174 : decode bc_R_logic 174 = .ok (.iload 11, 2) := by decide +kernel
theorem dc_R_logic_176 : decode bc_R_logic 176 = .ok (.isub, 1) := by decide +kernel
theorem dc_R_logic_177 : decode bc_R_logic 177 = .ok (.iload 9, 2) := by decide +kernel
theorem dc_R_logic_179 : decode bc_R_logic 179 = .ok (.iadd, 1) := by decide +kernel
theorem dc_R_logic_180 : decode bc_R_logic 180 = .ok (.goto 5, 3) := by decide +kernel
theorem dc_R_logic_183 : decode bc_R_logic 183 = .ok (.iload 11, 2) := by decide +kernel
theorem dc_R_logic_185 : decode bc_R_logic 185 = .ok (.istore 12, 2) := by decide +kernel
theorem dc_R_logic_187 : decode bc_R_logic 187 = .ok (.iload 8, 2) := by decide +kernel
theorem dc_R_logic_189 : decode bc_R_logic 189 = .ok (.ifCond .eq 14, 3) := by decide +kernel
theorem dc_R_logic_192 : decode bc_R_logic 192 = .ok (.iload 12, 2) := by decide +kernel
theorem dc_R_logic_194 : decode bc_R_logic 194 = .ok (.ldc 21, 2) := by decide +kernel
theorem dc_R_logic_196 : decode bc_R_logic 196 = .ok (.if_icmp .ne 7, 3) := by decide +kernel
theorem dc_R_logic_199 : decode bc_R_logic 199 = .ok (.iconst 1, 1) := by decide +kernel
theorem dc_R_logic_200 : decode bc_R_logic 200 = .ok (.goto 4, 3) := by decide +kernel
theorem dc_R_logic_203 : decode bc_R_logic 203 = .ok (.iconst 0, 1) := by decide +kernel
theorem dc_R_logic_204 : decode bc_R_logic 204 = .ok (.istore 9, 2) := by decide +kernel
theorem dc_R_logic_206 : decode bc_R_logic 206 = .ok (.aload_n 0, 1) := by decide +kernel
theorem dc_R_logic_207 : decode bc_R_logic 207 = .ok (.getfield 8, 3) := by decide +kernel
theorem dc_R_logic_210 : decode bc_R_logic 210 = .ok (.bipush 16, 2) := by decide +kernel
theorem dc_R_logic_212 : decode bc_R_logic 212 = .ok (.invokestatic 22, 3) := by decide +kernel
theorem dc_R_logic_215 : decode bc_R_logic 215 = .ok (.iload 10, 2) := by decide +kernel
theorem dc_R_logic_217 : decode bc_R_logic 217 = .ok (.iadd, 1) := by decide +kernel
theorem dc_R_logic_218 : decode bc_R_logic 218 = .ok (.iload 12, 2) := by decide +kernel
theorem dc_R_logic_220 : decode bc_R_logic 220 = .ok (.ldc 36, 2) := by decide +kernel
theorem dc_R_logic_222 : decode bc_R_logic 222 = .ok (.iand, 1) := by decide +kernel
theorem dc_R_logic_223 : decode bc_R_logic 223 = .ok (.iastore, 1) := by decide +kernel
theorem dc_R_logic_224 : decode bc_R_logic 224 = .ok (.iinc 10 1, 3) := by decide +kernel
theorem dc_R_logic_227 : decode bc_R_logic 227 = .ok (.goto (-95), 3) := by decide +kernel
theorem dc_R_logic_230 : decode bc_R_logic 230 = .ok (.aload_n 0, 1) := by decide +kernel
theorem dc_R_logic_231 : decode bc_R_logic 231 = .ok (.getfield 8, 3) := by decide +kernel
theorem dc_R_logic_234 : decode bc_R_logic 234 = .ok (.bipush 16, 2) := by decide +kernel
theorem dc_R_logic_236 : decode bc_R_logic 236 = .ok (.invokestatic 22, 3) := by decide +kernel
theorem dc_R_logic_239 : decode bc_R_logic 239 = .ok (.iload 5, 2) := by decide +kernel
theorem dc_R_logic_241 : decode bc_R_logic 241 = .ok (.iadd, 1) := by decide +kernel
theorem dc_R_logic_242 : decode bc_R_logic 242 = .ok (.iload 8, 2) := by decide +kernel
theorem dc_R_logic_244 : decode bc_R_logic 244 = .ok (.ifCond .eq 8, 3) := by decide +kernel
theorem dc_R_logic_247 : decode bc_R_logic 247 = .ok (.iload 9, 2) := by decide +kernel
theorem dc_R_logic_249 : decode bc_R_logic 249 = .ok (.goto 4, 3) := by decide +kernel
theorem dc_R_logic_252 : decode bc_R_logic 252 = .ok (.iconst 0, 1) := by decide +kernel
theorem dc_R_logic_253 : decode bc_R_logic 253 = .ok (.iastore, 1) := by decide +kernel
theorem dc_R_logic_254 : decode bc_R_logic 254 = .ok (.aload_n 0, 1) := by decide +kernel
theorem dc_R_logic_255 : decode bc_R_logic 255 = .ok (.bipush 16, 2) := by decide +kernel
theorem dc_R_logic_257 : decode bc_R_logic 257 = .ok (.iload 5, 2) := by decide +kernel
theorem dc_R_logic_259 : decode bc_R_logic 259 = .ok (.iconst 1, 1) := by decide +kernel
theorem dc_R_logic_260 : decode bc_R_logic 260 = .ok (.iadd, 1) := by decide +kernel
theorem dc_R_logic_261 : decode bc_R_logic 261 = .ok (.invokevirtual 28, 3) := by decide +kernel
theorem dc_R_logic_264 : decode bc_R_logic 264 = .ok (.aload_n 0, 1) := by decide +kernel
theorem dc_R_logic_265 : decode bc_R_logic 265 = .ok (.iload_n 1, 1) := by decide +kernel
theorem dc_R_logic_266 : decode bc_R_logic 266 = .ok (.bipush 16, 2) := by decide +kernel
theorem dc_R_logic_268 : decode bc_R_logic 268 = .ok (.iload 8, 2) := by decide +kernel
theorem dc_R_logic_270 : decode bc_R_logic 270 = .ok (.invokevirtual 75, 3) := by decide +kernel
theorem dc_R_logic_273 : decode bc_R_logic 273 = .ok (.ireturn, 1) := by decide +kernel
theorem dc_R_lowestDigit_0 : decode bc_R_lowestDigit 0 = .ok (.iconst 0, 1) := by decide +kernel
theorem dc_R_lowestDigit_1 : decode bc_R_lowestDigit 1 = .ok (.istore_n 2, 1) := by decide +kernel
theorem dc_R_lowestDigit_2 : decode bc_R_lowestDigit 2 = .ok (.iload_n 2, 1) := by decide +kernel
theorem dc_R_lowestDigit_3 : decode bc_R_lowestDigit 3 = .ok (.aload_n 0, 1) := by decide +kernel
theorem dc_R_lowestDigit_4 : decode bc_R_lowestDigit 4 = .ok (.getfield 14, 3) := by decide +kernel
theorem dc_R_lowestDigit_7 : decode bc_R_lowestDigit 7 = .ok (.iload_n 1, 1) := by decide +kernel
theorem dc_R_lowestDigit_8 : decode bc_R_lowestDigit 8 = .ok (.iaload, 1) := by decide +kernel
theorem dc_R_lowestDigit_9 : decode bc_R_lowestDigit 9 = .ok (.if_icmp .ge 23, 3) := by decide +kernel
theorem dc_R_lowestDigit_12 : decode bc_R_lowestDigit 12 = .ok (.aload_n 0, 1) := by decide +kernel
theorem dc_R_lowestDigit_13 : decode bc_R_lowestDigit 13 = .ok (.getfield 8, 3) := by decide +kernel
theorem dc_R_lowestDigit_16 : decode bc_R_lowestDigit 16 = .ok (.iload_n 1, 1) := by decide +kernel
theorem dc_R_lowestDigit_17 : decode bc_R_lowestDigit 17 = .ok (.invokestatic 22, 3) := by decide +kernel
theorem dc_R_lowestDigit_20 : decode bc_R_lowestDigit 20 = .ok (.iload_n 2, 1) := by decide +kernel
theorem dc_R_lowestDigit_21 : decode bc_R_lowestDigit 21 = .ok (.iadd, 1) := by decide +kernel
theorem dc_R_lowestDigit_22 : decode bc_R_lowestDigit 22 = .ok (.iaload, 1) := by decide +kernel
theorem dc_R_lowestDigit_23 : decode bc_R_lowestDigit 23 = .ok (.ifCond .ne 9, 3) := by decide +kernel
theorem dc_R_lowestDigit_26 : decode bc_R_lowestDigit 26 = .ok (.iinc 2 1, 3) := by decide +kernel
theorem dc_R_lowestDigit_29 : decode bc_R_lowestDigit 29 = .ok (.goto (-27), 3) := by decide +kernel
theorem dc_R_lowestDigit_32 : decode bc_R_lowestDigit 32 = .ok (.iload_n 2, 1) := by decide +kernel
theorem dc_R_lowestDigit_33 : decode bc_R_lowestDigit 33 = .ok (.ireturn, 1) := by decide +kernel
theorem dc_R_joined_0 : decode bc_R_joined 0 = .ok (.iload_n 2, 1) := by decide +kernel
theorem dc_R_joined_1 : decode bc_R_joined 1 = .ok (.ifCond .ne 9, 3) := by decide +kernel
theorem dc_R_joined_4 : decode bc_R_joined 4 = .ok (.iload_n 0, 1) := by decide +kernel
theorem dc_R_joined_5 : decode bc_R_joined 5 = .ok (.iload_n 1, 1) := by decide +kernel
theorem dc_R_joined_6 : decode bc_R_joined 6 = .ok (.iand, 1) := by decide +kernel
theorem dc_R_joined_7 : decode bc_R_joined 7 = .ok (.goto 30, 3) := by decide +kernel
theorem dc_R_joined_10 : decode bc_R_joined 10 = .ok (.iload_n 2, 1) := by decide +kernel
theorem dc_R_joined_11 : decode bc_R_joined 11 = .ok (.iconst 1, 1) := by decide +kernel
theorem dc_R_joined_12 : decode bc_R_joined 12 = .ok (.if_icmp .ne 9, 3) := by decide +kernel
theorem dc_R_joined_15 : decode bc_R_joined 15 = .ok (.iload_n 0, 1) := by decide +kernel
theorem dc_R_joined_16 : decode bc_R_joined 16 = .ok (.iload_n 1, 1) := by decide +kernel
theorem dc_R_joined_17 : decode bc_R_joined 17 = .ok (.ior, 1) := by decide +kernel
theorem dc_R_joined_18 : decode bc_R_joined 18 = .ok (.goto 19, 3) := by decide +kernel
theorem dc_R_joined_21 : decode bc_R_joined 21 = .ok (.iload_n 2, 1) := by decide +kernel
theorem dc_R_joined_22 : decode bc_R_joined 22 = .ok (.iconst 2, 1) := by decide +kernel
theorem dc_R_joined_23 : decode bc_R_joined 23 = .ok (.if_icmp .ne 9, 3) := by decide +kernel
theorem dc_R_joined_26 : decode bc_R_joined 26 = .ok (.iload_n 0, 1) := by decide +kernel
theorem dc_R_joined_27 : decode bc_R_joined 27 = .ok (.iload_n 1, 1) := by decide +kernel
theorem dc_R_joined_28 : decode bc_R_joined 28 = .ok (.ixor, 1) := by decide +kernel
theorem dc_R_joined_29 : decode bc_R_joined 29 = .ok (.goto 8, 3) := by decide +kernel
theorem dc_R_joined_32 : decode bc_R_joined 32 = .ok (.iload_n 0, 1) := by decide +kernel
theorem dc_R_joined_33 : decode bc_R_joined 33 = .ok (.iload_n 1, 1) := by decide +kernel
theorem dc_R_joined_34 : decode bc_R_joined 34 = .ok (.iconst (-1), 1) := by decide +kernel
theorem dc_R_joined_35 : decode bc_R_joined 35 = .ok (.ixor, 1) := by decide +kernel
theorem dc_R_joined_36 : decode bc_R_joined 36 = .ok (.iand, 1) := by decide +kernel
theorem dc_R_joined_37 : decode bc_R_joined 37 = .ok (.ireturn, 1) := by decide +kernel
theorem dc_R_bitsDigit_0 : decode bc_R_bitsDigit 0 = .ok (.aload_n 0, 1) := by decide +kernel
theorem dc_R_bitsDigit_1 : decode bc_R_bitsDigit 1 = .ok (.iload_n 1, 1) := by decide +kernel
theorem dc_R_bitsDigit_2 : decode bc_R_bitsDigit 2 = .ok (.iload_n 2, 1) := by decide +kernel
theorem dc_R_bitsDigit_3 : decode bc_R_bitsDigit 3 = .ok (.invokevirtual 32, 3) := by decide +kernel
theorem dc_R_bitsDigit_6 : decode bc_R_bitsDigit 6 = .ok (.istore 4, 2) := by decide +kernel
theorem dc_R_bitsDigit_8 : decode bc_R_bitsDigit 8 = .ok (.aload_n 0, 1) := by decide +kernel
theorem dc_R_bitsDigit_9 : decode bc_R_bitsDigit 9 = .ok (.getfield 17, 3) := by decide +kernel
theorem dc_R_bitsDigit_12 : decode bc_R_bitsDigit 12 = .ok (.iload_n 1, 1) := by decide +kernel
theorem dc_R_bitsDigit_13 : decode bc_R_bitsDigit 13 = .ok (.baload, 1) := by decide +kernel
theorem dc_R_bitsDigit_14 : decode bc_R_bitsDigit 14 = .ok (.ifCond .ne 6, 3) := by decide +kernel
theorem dc_R_bitsDigit_17 : decode bc_R_bitsDigit 17 = .ok (.iload 4, 2) := by decide +kernel
theorem dc_R_bitsDigit_19 : decode bc_R_bitsDigit 19 = .ok (.ireturn, 1) := by decide +kernel
theorem dc_R_bitsDigit_20 : decode bc_R_bitsDigit 20 = .ok (.iload_n 2, 1) := by decide +kernel
theorem dc_R_bitsDigit_21 : decode bc_R_bitsDigit 21 = .ok (.iload_n 3, 1) := by decide +kernel
theorem dc_R_bitsDigit_22 : decode bc_R_bitsDigit 22 = .ok (.if_icmp .ge 7, 3) := by decide +kernel
theorem dc_R_bitsDigit_25 : decode bc_R_bitsDigit 25 = .ok (.iconst 0, 1) := by decide +kernel
theorem dc_R_bitsDigit_26 : decode bc_R_bitsDigit 26 = .ok (.goto 21, 3) := by decide +kernel
theorem dc_R_bitsDigit_29 : decode bc_R_bitsDigit 29 = .ok (.iload_n 2, 1) := by decide +kernel
theorem dc_R_bitsDigit_30 : decode bc_R_bitsDigit 30 = .ok (.iload_n 3, 1) := by decide +kernel
theorem dc_R_bitsDigit_31 : decode bc_R_bitsDigit 31 = .ok (.if_icmp .ne 11, 3) := by decide +kernel
theorem dc_R_bitsDigit_34 : decode bc_R_bitsDigit 34 = .ok (.ldc 21, 2) := by decide +kernel
theorem dc_R_bitsDigit_36 : decode bc_R_bitsDigit 36 = .ok (.iload 4, 2) := by decide +kernel
theorem dc_R_bitsDigit_38 : decode bc_R_bitsDigit 38 = .ok (.isub, 1) := by decide +kernel
theorem dc_R_bitsDigit_39 : decode bc_R_bitsDigit 39 = .ok (.goto 8, 3) := by decide +kernel
theorem dc_R_bitsDigit_42 : decode bc_R_bitsDigit 42 = .ok (.ldc 36, 2) := by decide +kernel
theorem dc_R_bitsDigit_44 : decode bc_R_bitsDigit 44 = .ok (.iload 4, 2) := by decide +kernel
theorem dc_R_bitsDigit_46 : decode bc_R_bitsDigit 46 = .ok (.isub, 1) := by decide +kernel
theorem dc_R_bitsDigit_47 : decode bc_R_bitsDigit 47 = .ok (.ireturn, 1) := by decide +kernel
theorem dc_R_shift_0 : decode bc_R_shift 0 = .ok (.iload_n 1, 1) := by decide +kernel
theorem dc_R_shift_1 : decode bc_R_shift 1 = .ok (.invokestatic 67, 3) := by decide +kernel
theorem dc_R_shift_4 : decode bc_R_shift 4 = .ok (.ifCond .eq 10, 3) := by decide +kernel
theorem dc_R_shift_7 : decode bc_R_shift 7 = .ok (.iload_n 2, 1) := by decide +kernel
theorem dc_R_shift_8 : decode bc_R_shift 8 = .ok (.invokestatic 67, 3) := by decide +kernel
theorem dc_R_shift_11 : decode bc_R_shift 11 = .ok (.ifCond .ne 5, 3) := by decide +kernel
theorem dc_R_shift_14 : decode bc_R_shift 14 = .ok (.iconst 0, 1) := by decide +kernel
theorem dc_R_shift_15 : decode bc_R_shift 15 = .ok (.ireturn, 1) := by decide +kernel
theorem dc_R_shift_16 : decode bc_R_shift 16 = .ok (.iload_n 3, 1) := by decide +kernel
theorem dc_R_shift_17 : decode bc_R_shift 17 = .ok (.ifCond .lt 65, 3) := by decide +kernel
theorem dc_R_shift_20 : decode bc_R_shift 20 = .ok (.aload_n 0, 1) := by decide +kernel
theorem dc_R_shift_21 : decode bc_R_shift 21 = .ok (.getfield 14, 3) := by decide +kernel
theorem dc_R_shift_24 : decode bc_R_shift 24 = .ok (.iload_n 2, 1) := by decide +kernel
theorem dc_R_shift_25 : decode bc_R_shift 25 = .ok (.iaload, 1) := by decide +kernel
theorem dc_R_shift_26 : decode bc_R_shift 26 = .ok (.ifCond .le 21, 3) := by decide +kernel
theorem dc_R_shift_29 : decode bc_R_shift 29 = .ok (.aload_n 0, 1) := by decide +kernel
theorem dc_R_shift_30 : decode bc_R_shift 30 = .ok (.iload_n 2, 1) := by decide +kernel
theorem dc_R_shift_31 : decode bc_R_shift 31 = .ok (.invokevirtual 41, 3) := by decide +kernel
theorem dc_R_shift_34 : decode bc_R_shift 34 = .ok (.i2l, 1) := by decide +kernel
theorem dc_R_shift_35 : decode bc_R_shift 35 = .ok (.iload_n 3, 1) := by decide +kernel
theorem dc_R_shift_36 : decode bc_R_shift 36 = .ok (.i2l, 1) := by decide +kernel
theorem dc_R_shift_37 : decode bc_R_shift 37 = .ok (.ladd, 1) := by decide +kernel
theorem dc_R_shift_38 : decode bc_R_shift 38 = .ok (.ldc2_w 103, 3) := by decide +kernel
theorem dc_R_shift_41 : decode bc_R_shift 41 = .ok (.lcmp, 1) := by decide +kernel
theorem dc_R_shift_42 : decode bc_R_shift 42 = .ok (.ifCond .le 5, 3) := by decide +kernel
theorem dc_R_shift_45 : decode bc_R_shift 45 = .ok (.iconst 0, 1) := by decide +kernel
theorem dc_R_shift_46 : decode bc_R_shift 46 = .ok (.ireturn, 1) := by decide +kernel
theorem dc_R_shift_47 : decode bc_R_shift 47 = .ok (.aload_n 0, 1) := by decide +kernel
theorem dc_R_shift_48 : decode bc_R_shift 48 = .ok (.bipush 16, 2) := by decide +kernel
theorem dc_R_shift_50 : decode bc_R_shift 50 = .ok (.iload_n 2, 1) := by decide +kernel
theorem dc_R_shift_51 : decode bc_R_shift 51 = .ok (.aload_n 0, 1) := by decide +kernel
theorem dc_R_shift_52 : decode bc_R_shift 52 = .ok (.getfield 14, 3) := by decide +kernel
theorem dc_R_shift_55 : decode bc_R_shift 55 = .ok (.iload_n 2, 1) := by decide +kernel
theorem dc_R_shift_56 : decode bc_R_shift 56 = .ok (.iaload, 1) := by decide +kernel
theorem dc_R_shift_57 : decode bc_R_shift 57 = .ok (.ifCond .ne 7, 3) := by decide +kernel
theorem dc_R_shift_60 : decode bc_R_shift 60 = .ok (.iconst 0, 1) := by decide +kernel
theorem dc_R_shift_61 : decode bc_R_shift 61 = .ok (.goto 4, 3) := by decide +kernel
theorem dc_R_shift_64 : decode bc_R_shift 64 = .ok (.iload_n 3, 1) := by decide +kernel
theorem dc_R_shift_65 : decode bc_R_shift 65 = .ok (.invokevirtual 105, 3) := by decide +kernel
theorem dc_R_shift_68 : decode bc_R_shift 68 = .ok (.aload_n 0, 1) := by decide +kernel
theorem dc_R_shift_69 : decode bc_R_shift 69 = .ok (.iload_n 1, 1) := by decide +kernel
theorem dc_R_shift_70 : decode bc_R_shift 70 = .ok (.bipush 16, 2) := by decide +kernel
theorem dc_R_shift_72 : decode bc_R_shift 72 = .ok (.aload_n 0, 1) := by decide +kernel
theorem dc_R_shift_73 : decode bc_R_shift 73 = .ok (.getfield 17, 3) := by decide +kernel
theorem dc_R_shift_76 : decode bc_R_shift 76 = .ok (.iload_n 2, 1) := by decide +kernel
theorem dc_R_shift_77 : decode bc_R_shift 77 = .ok (.baload, 1) := by decide +kernel
theorem dc_R_shift_78 : decode bc_R_shift 78 = .ok (.invokevirtual 75, 3) := by decide +kernel
theorem dc_R_shift_81 : decode bc_R_shift 81 = .ok (.ireturn, 1) := by decide +kernel
theorem dc_R_shift_82 : decode bc_R_shift 82 = .ok (.iload_n 3, 1) := by decide +kernel
theorem dc_R_shift_83 : decode bc_R_shift 83 = .ok (.i2l, 1) := by decide +kernel
theorem dc_R_shift_84 : decode bc_R_shift 84 = .ok (.lneg, 1) := by decide +kernel
theorem dc_R_shift_85 : decode bc_R_shift 85 = .ok (.lstore 4, 2) := by decide +kernel
theorem dc_R_shift_87 : decode bc_R_shift 87 = .ok (.aload_n 0, 1) := by decide +kernel
theorem dc_R_shift_88 : decode bc_R_shift 88 = .ok (.bipush 16, 2) := by decide +kernel
theorem dc_R_shift_90 : decode bc_R_shift 90 = .ok (.iload_n 2, 1) := by decide +kernel
theorem dc_R_shift_91 : decode bc_R_shift 91 = .ok (.lload 4, 2) := by decide +kernel
theorem dc_R_shift_93 : decode bc_R_shift 93 = .ok (.invokevirtual 44, 3) := by decide +kernel
theorem dc_R_shift_96 : decode bc_R_shift 96 = .ok (.iconst 0, 1) := by decide +kernel
theorem dc_R_shift_97 : decode bc_R_shift 97 = .ok (.istore 6, 2) := by decide +kernel
theorem dc_R_shift_99 : decode bc_R_shift 99 = .ok (.lconst 0, 1) := by decide +kernel
theorem dc_R_shift_100 : decode bc_R_shift 100 = .ok (.lstore 7, 2) := by decide +kernel
theorem dc_R_shift_102 : decode bc_R_shift 102 = .ok (.lload 7, 2) := by decide +kernel
theorem dc_R_shift_104 : decode bc_R_shift 104 = .ok (.lload 4, 2) := by decide +kernel
theorem dc_R_shift_106 : decode bc_R_shift 106 = .ok (.lcmp, 1) := by decide +kernel
theorem dc_R_shift_107 : decode bc_R_shift 107 = .ok (.ifCond .ge 53, 3) := by decide +kernel
theorem dc_R_shift_110 : decode bc_R_shift 110 = .ok (.lload 7, 2) := by decide +kernel
theorem dc_R_shift_112 : decode bc_R_shift 112 = .ok (.ldc2_w 37, 3) := by decide +kernel
theorem dc_R_shift_115 : decode bc_R_shift 115 = .ok (.aload_n 0, 1) := by decide +kernel
theorem dc_R_shift_116 : decode bc_R_shift 116 = .ok (.getfield 14, 3) := by decide +kernel
theorem dc_R_shift_119 : decode bc_R_shift 119 = .ok (.iload_n 2, 1) := by decide +kernel
theorem dc_R_shift_120 : decode bc_R_shift 120 = .ok (.iaload, 1) := by decide +kernel
theorem dc_R_shift_121 : decode bc_R_shift 121 = .ok (.i2l, 1) := by decide +kernel
theorem dc_R_shift_122 : decode bc_R_shift 122 = .ok (.lmul, 1) := by decide +kernel
theorem dc_R_shift_123 : decode bc_R_shift 123 = .ok (.lcmp, 1) := by decide +kernel
theorem dc_R_shift_124 : decode bc_R_shift 124 = .ok (.ifCond .ge 36, 3) := by decide +kernel
theorem dc_R_shift_127 : decode bc_R_shift 127 = .ok (.iload 6, 2) := by decide +kernel
theorem dc_R_shift_129 : decode bc_R_shift 129 = .ok (.ifCond .ne 15, 3) := by decide +kernel
theorem dc_R_shift_132 : decode bc_R_shift 132 = .ok (.aload_n 0, 1) := by decide +kernel
theorem dc_R_shift_133 : decode bc_R_shift 133 = .ok (.iload_n 2, 1) := by decide +kernel
theorem dc_R_shift_134 : decode bc_R_shift 134 = .ok (.lload 7, 2) := by decide +kernel
theorem dc_R_shift_136 : decode bc_R_shift 136 = .ok (.l2i, 1) := by decide +kernel
theorem dc_R_shift_137 : decode bc_R_shift 137 = .ok (.invokevirtual 48, 3) := by decide +kernel
theorem dc_R_shift_140 : decode bc_R_shift 140 = .ok (.iconst 1, 1) := by decide +kernel
theorem dc_R_shift_141 : decode bc_R_shift 141 = .ok (.if_icmp .ne 7, 3) := by decide +kernel
theorem dc_R_shift_144 : decode bc_R_shift 144 = .ok (.iconst 1, 1) := by decide +kernel
theorem dc_R_shift_145 : decode bc_R_shift 145 = .ok (.goto 4, 3) := by decide +kernel
theorem dc_R_shift_148 : decode bc_R_shift 148 = .ok (.iconst 0, 1) := by decide +kernel
theorem dc_R_shift_149 : decode bc_R_shift 149 = .ok (.istore 6, 2) := by decide +kernel
theorem dc_R_shift_151 : decode bc_R_shift 151 = .ok (.lload 7, 2) := by decide +kernel
theorem dc_R_shift_153 : decode bc_R_shift 153 = .ok (.lconst 1, 1) := by decide +kernel
theorem dc_R_shift_154 : decode bc_R_shift 154 = .ok (.ladd, 1) := by decide +kernel
theorem dc_R_shift_155 : decode bc_R_shift 155 = .ok (.lstore 7, 2) := by decide +kernel
theorem dc_R_shift_157 : decode bc_R_shift 157 = .ok (.goto (-55), 3) := by decide +kernel
theorem dc_R_shift_160 : decode bc_R_shift 160 = .ok (.aload_n 0, 1) := by decide +kernel
theorem dc_R_shift_161 : decode bc_R_shift 161 = .ok (.getfield 17, 3) := by decide +kernel
theorem dc_R_shift_164 : decode bc_R_shift 164 = .ok (.iload_n 2, 1) := by decide +kernel
theorem dc_R_shift_165 : decode bc_R_shift 165 = .ok (.baload, 1) := by decide +kernel
theorem dc_R_shift_166 : decode bc_R_shift 166 = .ok (.ifCond .eq 25, 3) := by decide +kernel
theorem dc_R_shift_169 : decode bc_R_shift 169 = .ok (.iload 6, 2) := by decide +kernel
theorem dc_R_shift_171 : decode bc_R_shift 171 = .ok (.ifCond .eq 20, 3) := by decide +kernel
theorem dc_R_shift_174 : decode bc_R_shift 174 = .ok (.aload_n 0, 1) := by decide +kernel
theorem dc_R_shift_175 : decode bc_R_shift 175 = .ok (.bipush 17, 2) := by decide +kernel
theorem dc_R_shift_177 : decode bc_R_shift 177 = .ok (.lconst 1, 1) := by decide +kernel
theorem dc_R_shift_178 : decode bc_R_shift 178 = .ok (.invokevirtual 71, 3) := by decide +kernel
theorem dc_R_shift_181 : decode bc_R_shift 181 = .ok (.aload_n 0, 1) := by decide +kernel
theorem dc_R_shift_182 : decode bc_R_shift 182 = .ok (.bipush 16, 2) := by decide +kernel
theorem dc_R_shift_184 : decode bc_R_shift 184 = .ok (.bipush 16, 2) := by decide +kernel
theorem dc_R_shift_186 : decode bc_R_shift 186 = .ok (.bipush 17, 2) := by decide +kernel
theorem dc_R_shift_188 : decode bc_R_shift 188 = .ok (.invokevirtual 79, 3) := by decide +kernel
theorem dc_R_shift_191 : decode bc_R_shift 191 = .ok (.aload_n 0, 1) := by decide +kernel
theorem dc_R_shift_192 : decode bc_R_shift 192 = .ok (.iload_n 1, 1) := by decide +kernel
theorem dc_R_shift_193 : decode bc_R_shift 193 = .ok (.bipush 16, 2) := by decide +kernel
theorem dc_R_shift_195 : decode bc_R_shift 195 = .ok (.aload_n 0, 1) := by decide +kernel
theorem dc_R_shift_196 : decode bc_R_shift 196 = .ok (.getfield 17, 3) := by decide +kernel
theorem dc_R_shift_199 : decode bc_R_shift 199 = .ok (.iload_n 2, 1) := by decide +kernel
theorem dc_R_shift_200 : decode bc_R_shift 200 = .ok (.baload, 1) := by decide +kernel
theorem dc_R_shift_201 : decode bc_R_shift 201 = .ok (.invokevirtual 75, 3) := by decide +kernel
theorem dc_R_shift_204 : decode bc_R_shift 204 = .ok (.ireturn, 1) := by decide +kernel
theorem dc_R_raise_0 : decode bc_R_raise 0 = .ok (.iload_n 3, 1) := by decide +kernel
theorem dc_R_raise_1 : decode bc_R_raise 1 = .ok (.bipush 16, 2) := by decide +kernel
theorem dc_R_raise_3 : decode bc_R_raise 3 = .ok (.idiv, 1) := by decide +kernel
theorem dc_R_raise_4 : decode bc_R_raise 4 = .ok (.istore 4, 2) := by decide +kernel
theorem dc_R_raise_6 : decode bc_R_raise 6 = .ok (.iload_n 3, 1) := by decide +kernel
theorem dc_R_raise_7 : decode bc_R_raise 7 = .ok (.bipush 16, 2) := by decide +kernel
theorem dc_R_raise_9 : decode bc_R_raise 9 = .ok (.irem, 1) := by decide +kernel
theorem dc_R_raise_10 : decode bc_R_raise 10 = .ok (.istore 5, 2) := by decide +kernel
theorem dc_R_raise_12 : decode bc_R_raise 12 = .ok (.aload_n 0, 1) := by decide +kernel
theorem dc_R_raise_13 : decode bc_R_raise 13 = .ok (.getfield 14, 3) := by decide +kernel
theorem dc_R_raise_16 : decode bc_R_raise 16 = .ok (.iload_n 2, 1) := by decide +kernel
theorem dc_R_raise_17 : decode bc_R_raise 17 = .ok (.iaload, 1) := by decide +kernel
theorem dc_R_raise_18 : decode bc_R_raise 18 = .ok (.iload 4, 2) := by decide +kernel
theorem dc_R_raise_20 : decode bc_R_raise 20 = .ok (.iadd, 1) := by decide +kernel
theorem dc_R_raise_21 : decode bc_R_raise 21 = .ok (.iconst 1, 1) := by decide +kernel
theorem dc_R_raise_22 : decode bc_R_raise 22 = .ok (.iadd, 1) := by decide +kernel
theorem dc_R_raise_23 : decode bc_R_raise 23 = .ok (.istore 6, 2) := by decide +kernel
theorem dc_R_raise_25 : decode bc_R_raise 25 = .ok (.iload 6, 2) := by decide +kernel
theorem dc_R_raise_27 : decode bc_R_raise 27 = .ok (.iconst 1, 1) := by decide +kernel
theorem dc_R_raise_28 : decode bc_R_raise 28 = .ok (.isub, 1) := by decide +kernel
theorem dc_R_raise_29 : decode bc_R_raise 29 = .ok (.istore 7, 2) := by decide +kernel
theorem dc_R_raise_31 : decode bc_R_raise 31 = .ok (.iload 7, 2) := by decide +kernel
theorem dc_R_raise_33 : decode bc_R_raise 33 = .ok (.ifCond .lt 86, 3) := by decide +kernel
theorem dc_R_raise_36 : decode bc_R_raise 36 = .ok (.iload 7, 2) := by decide +kernel
theorem dc_R_raise_38 : decode bc_R_raise 38 = .ok (.iload 4, 2) := by decide +kernel
theorem dc_R_raise_40 : decode bc_R_raise 40 = .ok (.if_icmp .lt 16, 3) := by decide +kernel
theorem dc_R_raise_43 : decode bc_R_raise 43 = .ok (.aload_n 0, 1) := by decide +kernel
theorem dc_R_raise_44 : decode bc_R_raise 44 = .ok (.iload_n 2, 1) := by decide +kernel
theorem dc_R_raise_45 : decode bc_R_raise 45 = .ok (.iload 7, 2) := by decide +kernel
theorem dc_R_raise_47 : decode bc_R_raise 47 = .ok (.iload 4, 2) := by decide +kernel
theorem dc_R_raise_49 : decode bc_R_raise 49 = .ok (.isub, 1) := by decide +kernel
theorem dc_R_raise_50 : decode bc_R_raise 50 = .ok (.invokevirtual 32, 3) := by decide +kernel
theorem dc_R_raise_53 : decode bc_R_raise 53 = .ok (.goto 4, 3) := by decide +kernel
theorem dc_R_raise_56 : decode bc_R_raise 56 = .ok (.iconst 0, 1) := by decide +kernel
theorem dc_R_raise_57 : decode bc_R_raise 57 = .ok (.istore 8, 2) := by decide +kernel
theorem dc_R_raise_59 : decode bc_R_raise 59 = .ok (.iload 7, 2) := by decide +kernel
theorem dc_R_raise_61 : decode bc_R_raise 61 = .ok (.iload 4, 2) := by decide +kernel
theorem dc_R_raise_63 : decode bc_R_raise 63 = .ok (.if_icmp .le 18, 3) := by decide +kernel
theorem dc_R_raise_66 : decode bc_R_raise 66 = .ok (.aload_n 0, 1) := by decide +kernel
theorem dc_R_raise_67 : decode bc_R_raise 67 = .ok (.iload_n 2, 1) := by decide +kernel
theorem dc_R_raise_68 : decode bc_R_raise 68 = .ok (.iload 7, 2) := by decide +kernel
theorem dc_R_raise_70 : decode bc_R_raise 70 = .ok (.iload 4, 2) := by decide +kernel
theorem dc_R_raise_72 : decode bc_R_raise 72 = .ok (.isub, 1) := by decide +kernel
theorem dc_R_raise_73 : decode bc_R_raise 73 = .ok (.iconst 1, 1) := by decide +kernel
theorem dc_R_raise_74 : decode bc_R_raise 74 = .ok (.isub, 1) := by decide +kernel
theorem dc_R_raise_75 : decode bc_R_raise 75 = .ok (.invokevirtual 32, 3) := by decide +kernel
theorem dc_R_raise_78 : decode bc_R_raise 78 = .ok (.goto 4, 3) := by decide +kernel
theorem dc_R_raise_81 : decode bc_R_raise 81 = .ok (.iconst 0, 1) := by decide +kernel
theorem dc_R_raise_82 : decode bc_R_raise 82 = .ok (.istore 9, 2) := by decide +kernel
theorem dc_R_raise_84 : decode bc_R_raise 84 = .ok (.aload_n 0, 1) := by decide +kernel
theorem dc_R_raise_85 : decode bc_R_raise 85 = .ok (.getfield 8, 3) := by decide +kernel
theorem dc_R_raise_88 : decode bc_R_raise 88 = .ok (.iload_n 1, 1) := by decide +kernel
theorem dc_R_raise_89 : decode bc_R_raise 89 = .ok (.invokestatic 22, 3) := by decide +kernel
theorem dc_R_raise_92 : decode bc_R_raise 92 = .ok (.iload 7, 2) := by decide +kernel
theorem dc_R_raise_94 : decode bc_R_raise 94 = .ok (.iadd, 1) := by decide +kernel
theorem dc_R_raise_95 : decode bc_R_raise 95 = .ok (.iload 8, 2) := by decide +kernel
theorem dc_R_raise_97 : decode bc_R_raise 97 = .ok (.bipush 16, 2) := by decide +kernel
theorem dc_R_raise_99 : decode bc_R_raise 99 = .ok (.ishl, 1) := by decide +kernel
theorem dc_R_raise_100 : decode bc_R_raise 100 = .ok (.iload 9, 2) := by decide +kernel
theorem dc_R_raise_102 : decode bc_R_raise 102 = .ok (.ior, 1) := by decide +kernel
theorem dc_R_raise_103 : decode bc_R_raise 103 = .ok (.iload 5, 2) := by decide +kernel
theorem dc_R_raise_105 : decode bc_R_raise 105 = .ok (.ishl, 1) := by decide +kernel
theorem dc_R_raise_106 : decode bc_R_raise 106 = .ok (.bipush 16, 2) := by decide +kernel
theorem dc_R_raise_108 : decode bc_R_raise 108 = .ok (.iushr, 1) := by decide +kernel
theorem dc_R_raise_109 : decode bc_R_raise 109 = .ok (.ldc 36, 2) := by decide +kernel
theorem dc_R_raise_111 : decode bc_R_raise 111 = .ok (.iand, 1) := by decide +kernel
theorem dc_R_raise_112 : decode bc_R_raise 112 = .ok (.iastore, 1) := by decide +kernel
theorem dc_R_raise_113 : decode bc_R_raise 113 = .ok (.iinc 7 (-1), 3) := by decide +kernel
theorem dc_R_raise_116 : decode bc_R_raise 116 = .ok (.goto (-85), 3) := by decide +kernel
theorem dc_R_raise_119 : decode bc_R_raise 119 = .ok (.aload_n 0, 1) := by decide +kernel
theorem dc_R_raise_120 : decode bc_R_raise 120 = .ok (.iload_n 1, 1) := by decide +kernel
theorem dc_R_raise_121 : decode bc_R_raise 121 = .ok (.iload 6, 2) := by decide +kernel
theorem dc_R_raise_123 : decode bc_R_raise 123 = .ok (.invokevirtual 28, 3) := by decide +kernel
theorem dc_R_raise_126 : decode bc_R_raise 126 = .ok (.return_, 1) := by decide +kernel
theorem dc_R_change_0 : decode bc_R_change 0 = .ok (.iload_n 1, 1) := by decide +kernel
theorem dc_R_change_1 : decode bc_R_change 1 = .ok (.invokestatic 67, 3) := by decide +kernel
theorem dc_R_change_4 : decode bc_R_change 4 = .ok (.ifCond .eq 25, 3) := by decide +kernel
theorem dc_R_change_7 : decode bc_R_change 7 = .ok (.iload_n 2, 1) := by decide +kernel
theorem dc_R_change_8 : decode bc_R_change 8 = .ok (.invokestatic 67, 3) := by decide +kernel
theorem dc_R_change_11 : decode bc_R_change 11 = .ok (.ifCond .eq 18, 3) := by decide +kernel
theorem dc_R_change_14 : decode bc_R_change 14 = .ok (.iload_n 3, 1) := by decide +kernel
theorem dc_R_change_15 : decode bc_R_change 15 = .ok (.ifCond .lt 14, 3) := by decide +kernel
theorem dc_R_change_18 : decode bc_R_change 18 = .ok (.iload 4, 2) := by decide +kernel
theorem dc_R_change_20 : decode bc_R_change 20 = .ok (.ifCond .lt 9, 3) := by decide +kernel
theorem dc_R_change_23 : decode bc_R_change 23 = .ok (.iload 4, 2) := by decide +kernel
theorem dc_R_change_25 : decode bc_R_change 25 = .ok (.iconst 2, 1) := by decide +kernel
theorem dc_R_change_26 : decode bc_R_change 26 = .ok (.if_icmp .le 5, 3) := by decide +kernel
theorem dc_R_change_29 : decode bc_R_change 29 = .ok (.iconst 0, 1) := by decide +kernel
theorem dc_R_change_30 : decode bc_R_change 30 = .ok (.ireturn, 1) := by decide +kernel
theorem dc_R_change_31 : decode bc_R_change 31 = .ok (.aload_n 0, 1) := by decide +kernel
theorem dc_R_change_32 : decode bc_R_change 32 = .ok (.iload_n 2, 1) := by decide +kernel
theorem dc_R_change_33 : decode bc_R_change 33 = .ok (.iload_n 3, 1) := by decide +kernel
theorem dc_R_change_34 : decode bc_R_change 34 = .ok (.invokevirtual 108, 3) := by decide +kernel
theorem dc_R_change_37 : decode bc_R_change 37 = .ok (.istore 5, 2) := by decide +kernel
theorem dc_R_change_39 : decode bc_R_change 39 = .ok (.iload 4, 2) := by decide +kernel
theorem dc_R_change_41 : decode bc_R_change 41 = .ok (.iconst 2, 1) := by decide +kernel
theorem dc_R_change_42 : decode bc_R_change 42 = .ok (.if_icmp .ne 10, 3) := by decide +kernel
theorem dc_R_change_45 : decode bc_R_change 45 = .ok (.iconst 1, 1) := by decide +kernel
theorem dc_R_change_46 : decode bc_R_change 46 = .ok (.iload 5, 2) := by decide +kernel
theorem dc_R_change_48 : decode bc_R_change 48 = .ok (.isub, 1) := by decide +kernel
theorem dc_R_change_49 : decode bc_R_change 49 = .ok (.goto 5, 3) := by decide +kernel
theorem dc_R_change_52 : decode bc_R_change 52 = .ok (.iload 4, 2) := by decide +kernel
theorem dc_R_change_54 : decode bc_R_change 54 = .ok (.istore 6, 2) := by decide +kernel
theorem dc_R_change_56 : decode bc_R_change 56 = .ok (.aload_n 0, 1) := by decide +kernel
theorem dc_R_change_57 : decode bc_R_change 57 = .ok (.bipush 20, 2) := by decide +kernel
theorem dc_R_change_59 : decode bc_R_change 59 = .ok (.iload_n 2, 1) := by decide +kernel
theorem dc_R_change_60 : decode bc_R_change 60 = .ok (.invokevirtual 64, 3) := by decide +kernel
theorem dc_R_change_63 : decode bc_R_change 63 = .ok (.iload 6, 2) := by decide +kernel
theorem dc_R_change_65 : decode bc_R_change 65 = .ok (.iload 5, 2) := by decide +kernel
theorem dc_R_change_67 : decode bc_R_change 67 = .ok (.if_icmp .ne 17, 3) := by decide +kernel
theorem dc_R_change_70 : decode bc_R_change 70 = .ok (.aload_n 0, 1) := by decide +kernel
theorem dc_R_change_71 : decode bc_R_change 71 = .ok (.iload_n 1, 1) := by decide +kernel
theorem dc_R_change_72 : decode bc_R_change 72 = .ok (.bipush 20, 2) := by decide +kernel
theorem dc_R_change_74 : decode bc_R_change 74 = .ok (.aload_n 0, 1) := by decide +kernel
theorem dc_R_change_75 : decode bc_R_change 75 = .ok (.getfield 17, 3) := by decide +kernel
theorem dc_R_change_78 : decode bc_R_change 78 = .ok (.iload_n 2, 1) := by decide +kernel
theorem dc_R_change_79 : decode bc_R_change 79 = .ok (.baload, 1) := by decide +kernel
theorem dc_R_change_80 : decode bc_R_change 80 = .ok (.invokevirtual 75, 3) := by decide +kernel
theorem dc_R_change_83 : decode bc_R_change 83 = .ok (.ireturn, 1) := by decide +kernel
theorem dc_R_change_84 : decode bc_R_change 84 = .ok (.iload_n 3, 1) := by decide +kernel
theorem dc_R_change_85 : decode bc_R_change 85 = .ok (.ldc 21, 2) := by decide +kernel
theorem dc_R_change_87 : decode bc_R_change 87 = .ok (.if_icmp .lt 5, 3) := by decide +kernel
theorem dc_R_change_90 : decode bc_R_change 90 = .ok (.iconst 0, 1) := by decide +kernel
theorem dc_R_change_91 : decode bc_R_change 91 = .ok (.ireturn, 1) := by decide +kernel
theorem dc_R_change_92 : decode bc_R_change 92 = .ok (.aload_n 0, 1) := by decide +kernel
theorem dc_R_change_93 : decode bc_R_change 93 = .ok (.bipush 17, 2) := by decide +kernel
theorem dc_R_change_95 : decode bc_R_change 95 = .ok (.lconst 1, 1) := by decide +kernel
theorem dc_R_change_96 : decode bc_R_change 96 = .ok (.invokevirtual 71, 3) := by decide +kernel
theorem dc_R_change_99 : decode bc_R_change 99 = .ok (.aload_n 0, 1) := by decide +kernel
theorem dc_R_change_100 : decode bc_R_change 100 = .ok (.bipush 18, 2) := by decide +kernel
theorem dc_R_change_102 : decode bc_R_change 102 = .ok (.bipush 17, 2) := by decide +kernel
theorem dc_R_change_104 : decode bc_R_change 104 = .ok (.iload_n 3, 1) := by decide +kernel
theorem dc_R_change_105 : decode bc_R_change 105 = .ok (.invokevirtual 105, 3) := by decide +kernel
theorem dc_R_change_108 : decode bc_R_change 108 = .ok (.aload_n 0, 1) := by decide +kernel
theorem dc_R_change_109 : decode bc_R_change 109 = .ok (.iload_n 1, 1) := by decide +kernel
theorem dc_R_change_110 : decode bc_R_change 110 = .ok (.bipush 20, 2) := by decide +kernel
theorem dc_R_change_112 : decode bc_R_change 112 = .ok (.aload_n 0, 1) := by decide +kernel
theorem dc_R_change_113 : decode bc_R_change 113 = .ok (.getfield 17, 3) := by decide +kernel
theorem dc_R_change_116 : decode bc_R_change 116 = .ok (.iload_n 2, 1) := by decide +kernel
theorem dc_R_change_117 : decode bc_R_change 117 = .ok (.baload, 1) := by decide +kernel
theorem dc_R_change_118 : decode bc_R_change 118 = .ok (.bipush 18, 2) := by decide +kernel
theorem dc_R_change_120 : decode bc_R_change 120 = .ok (.iload 6, 2) := by decide +kernel
theorem dc_R_change_122 : decode bc_R_change 122 = .ok (.ifCond .ne 7, 3) := by decide +kernel
theorem dc_R_change_125 : decode bc_R_change 125 = .ok (.iconst 1, 1) := by decide +kernel
theorem dc_R_change_126 : decode bc_R_change 126 = .ok (.goto 4, 3) := by decide +kernel
theorem dc_R_change_129 : decode bc_R_change 129 = .ok (.iconst 0, 1) := by decide +kernel
theorem dc_R_change_130 : decode bc_R_change 130 = .ok (.invokevirtual 82, 3) := by decide +kernel
theorem dc_R_change_133 : decode bc_R_change 133 = .ok (.ireturn, 1) := by decide +kernel
theorem dc_R_bitAt_0 : decode bc_R_bitAt 0 = .ok (.iload_n 2, 1) := by decide +kernel
theorem dc_R_bitAt_1 : decode bc_R_bitAt 1 = .ok (.iconst 4, 1) := by decide +kernel
theorem dc_R_bitAt_2 : decode bc_R_bitAt 2 = .ok (.ishr, 1) := by decide +kernel
theorem dc_R_bitAt_3 : decode bc_R_bitAt 3 = .ok (.sipush 4096, 3) := by decide +kernel
theorem dc_R_bitAt_6 : decode bc_R_bitAt 6 = .ok (.if_icmp .lt 20, 3) := by decide +kernel
theorem dc_R_bitAt_9 : decode bc_R_bitAt 9 = .ok (.aload_n 0, 1) := by decide +kernel
theorem dc_R_bitAt_10 : decode bc_R_bitAt 10 = .ok (.getfield 17, 3) := by decide +kernel
theorem dc_R_bitAt_13 : decode bc_R_bitAt 13 = .ok (.iload_n 1, 1) := by decide +kernel
theorem dc_R_bitAt_14 : decode bc_R_bitAt 14 = .ok (.baload, 1) := by decide +kernel
theorem dc_R_bitAt_15 : decode bc_R_bitAt 15 = .ok (.ifCond .eq 7, 3) := by decide +kernel
theorem dc_R_bitAt_18 : decode bc_R_bitAt 18 = .ok (.iconst 1, 1) := by decide +kernel
theorem dc_R_bitAt_19 : decode bc_R_bitAt 19 = .ok (.goto 27, 3) := by decide +kernel
theorem dc_R_bitAt_22 : decode bc_R_bitAt 22 = .ok (.iconst 0, 1) := by decide +kernel
theorem dc_R_bitAt_23 : decode bc_R_bitAt 23 = .ok (.goto 23, 3) := by decide +kernel
theorem dc_R_bitAt_26 : decode bc_R_bitAt 26 = .ok (.aload_n 0, 1) := by decide +kernel
theorem dc_R_bitAt_27 : decode bc_R_bitAt 27 = .ok (.iload_n 1, 1) := by decide +kernel
theorem dc_R_bitAt_28 : decode bc_R_bitAt 28 = .ok (.iload_n 2, 1) := by decide +kernel
theorem dc_R_bitAt_29 : decode bc_R_bitAt 29 = .ok (.iconst 4, 1) := by decide +kernel
theorem dc_R_bitAt_30 : decode bc_R_bitAt 30 = .ok (.ishr, 1) := by decide +kernel
theorem dc_R_bitAt_31 : decode bc_R_bitAt 31 = .ok (.aload_n 0, 1) := by decide +kernel
theorem dc_R_bitAt_32 : decode bc_R_bitAt 32 = .ok (.iload_n 1, 1) := by decide +kernel
theorem dc_R_bitAt_33 : decode bc_R_bitAt 33 = .ok (.invokevirtual 93, 3) := by decide +kernel
theorem dc_R_bitAt_36 : decode bc_R_bitAt 36 = .ok (.invokevirtual 100, 3) := by decide +kernel
theorem dc_R_bitAt_39 : decode bc_R_bitAt 39 = .ok (.iload_n 2, 1) := by decide +kernel
theorem dc_R_bitAt_40 : decode bc_R_bitAt 40 = .ok (.bipush 15, 2) := by decide +kernel
theorem dc_R_bitAt_42 : decode bc_R_bitAt 42 = .ok (.iand, 1) := by decide +kernel
theorem dc_R_bitAt_43 : decode bc_R_bitAt 43 = .ok (.ishr, 1) := by decide +kernel
theorem dc_R_bitAt_44 : decode bc_R_bitAt 44 = .ok (.iconst 1, 1) := by decide +kernel
theorem dc_R_bitAt_45 : decode bc_R_bitAt 45 = .ok (.iand, 1) := by decide +kernel
theorem dc_R_bitAt_46 : decode bc_R_bitAt 46 = .ok (.ireturn, 1) := by decide +kernel
theorem dc_R_power_0 : decode bc_R_power 0 = .ok (.iload_n 1, 1) := by decide +kernel
theorem dc_R_power_1 : decode bc_R_power 1 = .ok (.invokestatic 67, 3) := by decide +kernel
theorem dc_R_power_4 : decode bc_R_power 4 = .ok (.ifCond .eq 14, 3) := by decide +kernel
theorem dc_R_power_7 : decode bc_R_power 7 = .ok (.iload_n 2, 1) := by decide +kernel
theorem dc_R_power_8 : decode bc_R_power 8 = .ok (.invokestatic 67, 3) := by decide +kernel
theorem dc_R_power_11 : decode bc_R_power 11 = .ok (.ifCond .eq 7, 3) := by decide +kernel
theorem dc_R_power_14 : decode bc_R_power 14 = .ok (.iload_n 3, 1) := by decide +kernel
theorem dc_R_power_15 : decode bc_R_power 15 = .ok (.ifCond .ge 5, 3) := by decide +kernel
theorem dc_R_power_18 : decode bc_R_power 18 = .ok (.iconst 0, 1) := by decide +kernel
theorem dc_R_power_19 : decode bc_R_power 19 = .ok (.ireturn, 1) := by decide +kernel
theorem dc_R_power_20 : decode bc_R_power 20 = .ok (.aload_n 0, 1) := by decide +kernel
theorem dc_R_power_21 : decode bc_R_power 21 = .ok (.getfield 14, 3) := by decide +kernel
theorem dc_R_power_24 : decode bc_R_power 24 = .ok (.iload_n 2, 1) := by decide +kernel
theorem dc_R_power_25 : decode bc_R_power 25 = .ok (.iaload, 1) := by decide +kernel
theorem dc_R_power_26 : decode bc_R_power 26 = .ok (.ifCond .eq 26, 3) := by decide +kernel
theorem dc_R_power_29 : decode bc_R_power 29 = .ok (.aload_n 0, 1) := by decide +kernel
theorem dc_R_power_30 : decode bc_R_power 30 = .ok (.getfield 14, 3) := by decide +kernel
theorem dc_R_power_33 : decode bc_R_power 33 = .ok (.iload_n 2, 1) := by decide +kernel
theorem dc_R_power_34 : decode bc_R_power 34 = .ok (.iaload, 1) := by decide +kernel
theorem dc_R_power_35 : decode bc_R_power 35 = .ok (.iconst 1, 1) := by decide +kernel
theorem dc_R_power_36 : decode bc_R_power 36 = .ok (.if_icmp .ne 20, 3) := by decide +kernel
theorem dc_R_power_39 : decode bc_R_power 39 = .ok (.aload_n 0, 1) := by decide +kernel
theorem dc_R_power_40 : decode bc_R_power 40 = .ok (.getfield 8, 3) := by decide +kernel
theorem dc_R_power_43 : decode bc_R_power 43 = .ok (.iload_n 2, 1) := by decide +kernel
theorem dc_R_power_44 : decode bc_R_power 44 = .ok (.invokestatic 22, 3) := by decide +kernel
theorem dc_R_power_47 : decode bc_R_power 47 = .ok (.iaload, 1) := by decide +kernel
theorem dc_R_power_48 : decode bc_R_power 48 = .ok (.iconst 1, 1) := by decide +kernel
theorem dc_R_power_49 : decode bc_R_power 49 = .ok (.if_icmp .ne 7, 3) := by decide +kernel
theorem dc_R_power_52 : decode bc_R_power 52 = .ok (.iconst 1, 1) := by decide +kernel
theorem dc_R_power_53 : decode bc_R_power 53 = .ok (.goto 4, 3) := by decide +kernel
theorem dc_R_power_56 : decode bc_R_power 56 = .ok (.iconst 0, 1) := by decide +kernel
theorem dc_R_power_57 : decode bc_R_power 57 = .ok (.istore 4, 2) := by decide +kernel
theorem dc_R_power_59 : decode bc_R_power 59 = .ok (.aload_n 0, 1) := by decide +kernel
theorem dc_R_power_60 : decode bc_R_power 60 = .ok (.bipush 18, 2) := by decide +kernel
theorem dc_R_power_62 : decode bc_R_power 62 = .ok (.iload_n 2, 1) := by decide +kernel
theorem dc_R_power_63 : decode bc_R_power 63 = .ok (.invokevirtual 64, 3) := by decide +kernel
theorem dc_R_power_66 : decode bc_R_power 66 = .ok (.aload_n 0, 1) := by decide +kernel
theorem dc_R_power_67 : decode bc_R_power 67 = .ok (.bipush 17, 2) := by decide +kernel
theorem dc_R_power_69 : decode bc_R_power 69 = .ok (.lconst 1, 1) := by decide +kernel
theorem dc_R_power_70 : decode bc_R_power 70 = .ok (.invokevirtual 71, 3) := by decide +kernel
theorem dc_R_power_73 : decode bc_R_power 73 = .ok (.iload 4, 2) := by decide +kernel
theorem dc_R_power_75 : decode bc_R_power 75 = .ok (.ifCond .ne 11, 3) := by decide +kernel
theorem dc_R_power_78 : decode bc_R_power 78 = .ok (.iload_n 3, 1) := by decide +kernel
theorem dc_R_power_79 : decode bc_R_power 79 = .ok (.ldc 21, 2) := by decide +kernel
theorem dc_R_power_81 : decode bc_R_power 81 = .ok (.if_icmp .le 5, 3) := by decide +kernel
theorem dc_R_power_84 : decode bc_R_power 84 = .ok (.iconst 0, 1) := by decide +kernel
theorem dc_R_power_85 : decode bc_R_power 85 = .ok (.ireturn, 1) := by decide +kernel
theorem dc_R_power_86 : decode bc_R_power 86 = .ok (.aload_n 0, 1) := by decide +kernel
theorem dc_R_power_87 : decode bc_R_power 87 = .ok (.getfield 17, 3) := by decide +kernel
theorem dc_R_power_90 : decode bc_R_power 90 = .ok (.iload_n 2, 1) := by decide +kernel
theorem dc_R_power_91 : decode bc_R_power 91 = .ok (.baload, 1) := by decide +kernel
theorem dc_R_power_92 : decode bc_R_power 92 = .ok (.ifCond .eq 14, 3) := by decide +kernel
theorem dc_R_power_95 : decode bc_R_power 95 = .ok (.iload_n 3, 1) := by decide +kernel
theorem dc_R_power_96 : decode bc_R_power 96 = .ok (.iconst 2, 1) := by decide +kernel
theorem dc_R_power_97 : decode bc_R_power 97 = .ok (.irem, 1) := by decide +kernel
theorem dc_R_power_98 : decode bc_R_power 98 = .ok (.iconst 1, 1) := by decide +kernel
theorem dc_R_power_99 : decode bc_R_power 99 = .ok (.if_icmp .ne 7, 3) := by decide +kernel
theorem dc_R_power_102 : decode bc_R_power 102 = .ok (.iconst 1, 1) := by decide +kernel
theorem dc_R_power_103 : decode bc_R_power 103 = .ok (.goto 4, 3) := by decide +kernel
theorem dc_R_power_106 : decode bc_R_power 106 = .ok (.iconst 0, 1) := by decide +kernel
theorem dc_R_power_107 : decode bc_R_power 107 = .ok (.istore 5, 2) := by decide +kernel
theorem dc_R_power_109 : decode bc_R_power 109 = .ok (.iload 4, 2) := by decide +kernel
theorem dc_R_power_111 : decode bc_R_power 111 = .ok (.ifCond .eq 16, 3) := by decide +kernel
theorem dc_R_power_114 : decode bc_R_power 114 = .ok (.iload_n 3, 1) := by decide +kernel
theorem dc_R_power_115 : decode bc_R_power 115 = .ok (.iconst 2, 1) := by decide +kernel
theorem dc_R_power_116 : decode bc_R_power 116 = .ok (.if_icmp .le 11, 3) := by decide +kernel
theorem dc_R_power_119 : decode bc_R_power 119 = .ok (.iconst 2, 1) := by decide +kernel
theorem dc_R_power_120 : decode bc_R_power 120 = .ok (.iload_n 3, 1) := by decide +kernel
theorem dc_R_power_121 : decode bc_R_power 121 = .ok (.iconst 2, 1) := by decide +kernel
theorem dc_R_power_122 : decode bc_R_power 122 = .ok (.irem, 1) := by decide +kernel
theorem dc_R_power_123 : decode bc_R_power 123 = .ok (.isub, 1) := by decide +kernel
theorem dc_R_power_124 : decode bc_R_power 124 = .ok (.goto 4, 3) := by decide +kernel
theorem dc_R_power_127 : decode bc_R_power 127 = .ok (.iload_n 3, 1) := by decide +kernel
theorem dc_R_power_128 : decode bc_R_power 128 = .ok (.istore 6, 2) := by decide +kernel
theorem dc_R_power_130 : decode bc_R_power 130 = .ok (.iconst 0, 1) := by decide +kernel
theorem dc_R_power_131 : decode bc_R_power 131 = .ok (.istore 7, 2) := by decide +kernel
theorem dc_R_power_133 : decode bc_R_power 133 = .ok (.iload 7, 2) := by decide +kernel
theorem dc_R_power_135 : decode bc_R_power 135 = .ok (.iload 6, 2) := by decide +kernel
theorem dc_R_power_137 : decode bc_R_power 137 = .ok (.if_icmp .ge 42, 3) := by decide +kernel
theorem dc_R_power_140 : decode bc_R_power 140 = .ok (.aload_n 0, 1) := by decide +kernel
theorem dc_R_power_141 : decode bc_R_power 141 = .ok (.bipush 16, 2) := by decide +kernel
theorem dc_R_power_143 : decode bc_R_power 143 = .ok (.bipush 17, 2) := by decide +kernel
theorem dc_R_power_145 : decode bc_R_power 145 = .ok (.bipush 18, 2) := by decide +kernel
theorem dc_R_power_147 : decode bc_R_power 147 = .ok (.invokevirtual 86, 3) := by decide +kernel
theorem dc_R_power_150 : decode bc_R_power 150 = .ok (.aload_n 0, 1) := by decide +kernel
theorem dc_R_power_151 : decode bc_R_power 151 = .ok (.getfield 14, 3) := by decide +kernel
theorem dc_R_power_154 : decode bc_R_power 154 = .ok (.bipush 16, 2) := by decide +kernel
theorem dc_R_power_156 : decode bc_R_power 156 = .ok (.iaload, 1) := by decide +kernel
theorem dc_R_power_157 : decode bc_R_power 157 = .ok (.sipush 4096, 3) := by decide +kernel
theorem dc_R_power_160 : decode bc_R_power 160 = .ok (.if_icmp .le 5, 3) := by decide +kernel
theorem dc_R_power_163 : decode bc_R_power 163 = .ok (.iconst 0, 1) := by decide +kernel
theorem dc_R_power_164 : decode bc_R_power 164 = .ok (.ireturn, 1) := by decide +kernel
theorem dc_R_power_165 : decode bc_R_power 165 = .ok (.aload_n 0, 1) := by decide +kernel
theorem dc_R_power_166 : decode bc_R_power 166 = .ok (.bipush 17, 2) := by decide +kernel
theorem dc_R_power_168 : decode bc_R_power 168 = .ok (.bipush 16, 2) := by decide +kernel
theorem dc_R_power_170 : decode bc_R_power 170 = .ok (.invokevirtual 64, 3) := by decide +kernel
theorem dc_R_power_173 : decode bc_R_power 173 = .ok (.iinc 7 1, 3) := by decide +kernel
theorem dc_R_power_176 : decode bc_R_power 176 = .ok (.goto (-43), 3) := by decide +kernel
theorem dc_R_power_179 : decode bc_R_power 179 = .ok (.aload_n 0, 1) := by decide +kernel
theorem dc_R_power_180 : decode bc_R_power 180 = .ok (.iload_n 1, 1) := by decide +kernel
theorem dc_R_power_181 : decode bc_R_power 181 = .ok (.bipush 17, 2) := by decide +kernel
theorem dc_R_power_183 : decode bc_R_power 183 = .ok (.iload 5, 2) := by decide +kernel
theorem dc_R_power_185 : decode bc_R_power 185 = .ok (.invokevirtual 75, 3) := by decide +kernel
theorem dc_R_power_188 : decode bc_R_power 188 = .ok (.ireturn, 1) := by decide +kernel
theorem dc_R_common_0 : decode bc_R_common 0 = .ok (.iload_n 1, 1) := by decide +kernel
theorem dc_R_common_1 : decode bc_R_common 1 = .ok (.invokestatic 67, 3) := by decide +kernel
theorem dc_R_common_4 : decode bc_R_common 4 = .ok (.ifCond .eq 17, 3) := by decide +kernel
theorem dc_R_common_7 : decode bc_R_common 7 = .ok (.iload_n 2, 1) := by decide +kernel
theorem dc_R_common_8 : decode bc_R_common 8 = .ok (.invokestatic 67, 3) := by decide +kernel
theorem dc_R_common_11 : decode bc_R_common 11 = .ok (.ifCond .eq 10, 3) := by decide +kernel
theorem dc_R_common_14 : decode bc_R_common 14 = .ok (.iload_n 3, 1) := by decide +kernel
theorem dc_R_common_15 : decode bc_R_common 15 = .ok (.invokestatic 67, 3) := by decide +kernel
theorem dc_R_common_18 : decode bc_R_common 18 = .ok (.ifCond .ne 5, 3) := by decide +kernel
theorem dc_R_common_21 : decode bc_R_common 21 = .ok (.iconst 0, 1) := by decide +kernel
theorem dc_R_common_22 : decode bc_R_common 22 = .ok (.ireturn, 1) := by decide +kernel
theorem dc_R_common_23 : decode bc_R_common 23 = .ok (.aload_n 0, 1) := by decide +kernel
theorem dc_R_common_24 : decode bc_R_common 24 = .ok (.bipush 18, 2) := by decide +kernel
theorem dc_R_common_26 : decode bc_R_common 26 = .ok (.iload_n 2, 1) := by decide +kernel
theorem dc_R_common_27 : decode bc_R_common 27 = .ok (.invokevirtual 64, 3) := by decide +kernel
theorem dc_R_common_30 : decode bc_R_common 30 = .ok (.aload_n 0, 1) := by decide +kernel
theorem dc_R_common_31 : decode bc_R_common 31 = .ok (.bipush 19, 2) := by decide +kernel
theorem dc_R_common_33 : decode bc_R_common 33 = .ok (.iload_n 3, 1) := by decide +kernel
theorem dc_R_common_34 : decode bc_R_common 34 = .ok (.invokevirtual 64, 3) := by decide +kernel
theorem dc_R_common_37 : decode bc_R_common 37 = .ok (.aload_n 0, 1) := by decide +kernel
theorem dc_R_common_38 : decode bc_R_common 38 = .ok (.getfield 14, 3) := by decide +kernel
theorem dc_R_common_41 : decode bc_R_common 41 = .ok (.bipush 19, 2) := by decide +kernel
theorem dc_R_common_43 : decode bc_R_common 43 = .ok (.iaload, 1) := by decide +kernel
theorem dc_R_common_44 : decode bc_R_common 44 = .ok (.ifCond .le 34, 3) := by decide +kernel
theorem dc_R_common_47 : decode bc_R_common 47 = .ok (.aload_n 0, 1) := by decide +kernel
theorem dc_R_common_48 : decode bc_R_common 48 = .ok (.bipush 16, 2) := by decide +kernel
theorem dc_R_common_50 : decode bc_R_common 50 = .ok (.bipush 17, 2) := by decide +kernel
theorem dc_R_common_52 : decode bc_R_common 52 = .ok (.bipush 18, 2) := by decide +kernel
theorem dc_R_common_54 : decode bc_R_common 54 = .ok (.bipush 19, 2) := by decide +kernel
theorem dc_R_common_56 : decode bc_R_common 56 = .ok (.invokevirtual 89, 3) := by decide +kernel
theorem dc_R_common_59 : decode bc_R_common 59 = .ok (.aload_n 0, 1) := by decide +kernel
theorem dc_R_common_60 : decode bc_R_common 60 = .ok (.bipush 18, 2) := by decide +kernel
theorem dc_R_common_62 : decode bc_R_common 62 = .ok (.bipush 19, 2) := by decide +kernel
theorem dc_R_common_64 : decode bc_R_common 64 = .ok (.invokevirtual 64, 3) := by decide +kernel
theorem dc_R_common_67 : decode bc_R_common 67 = .ok (.aload_n 0, 1) := by decide +kernel
theorem dc_R_common_68 : decode bc_R_common 68 = .ok (.bipush 19, 2) := by decide +kernel
theorem dc_R_common_70 : decode bc_R_common 70 = .ok (.bipush 17, 2) := by decide +kernel
theorem dc_R_common_72 : decode bc_R_common 72 = .ok (.invokevirtual 64, 3) := by decide +kernel
theorem dc_R_common_75 : decode bc_R_common 75 = .ok (.goto (-38), 3) := by decide +kernel
theorem dc_R_common_78 : decode bc_R_common 78 = .ok (.aload_n 0, 1) := by decide +kernel
theorem dc_R_common_79 : decode bc_R_common 79 = .ok (.iload_n 1, 1) := by decide +kernel
theorem dc_R_common_80 : decode bc_R_common 80 = .ok (.bipush 18, 2) := by decide +kernel
theorem dc_R_common_82 : decode bc_R_common 82 = .ok (.iconst 0, 1) := by decide +kernel
theorem dc_R_common_83 : decode bc_R_common 83 = .ok (.invokevirtual 75, 3) := by decide +kernel
theorem dc_R_common_86 : decode bc_R_common 86 = .ok (.ireturn, 1) := by decide +kernel
theorem dc_R_inverse_0 : decode bc_R_inverse 0 = .ok (.iload_n 1, 1) := by decide +kernel
theorem dc_R_inverse_1 : decode bc_R_inverse 1 = .ok (.invokestatic 67, 3) := by decide +kernel
theorem dc_R_inverse_4 : decode bc_R_inverse 4 = .ok (.ifCond .eq 35, 3) := by decide +kernel
theorem dc_R_inverse_7 : decode bc_R_inverse 7 = .ok (.iload_n 2, 1) := by decide +kernel
theorem dc_R_inverse_8 : decode bc_R_inverse 8 = .ok (.invokestatic 67, 3) := by decide +kernel
theorem dc_R_inverse_11 : decode bc_R_inverse 11 = .ok (.ifCond .eq 28, 3) := by decide +kernel
theorem dc_R_inverse_14 : decode bc_R_inverse 14 = .ok (.iload_n 3, 1) := by decide +kernel
theorem dc_R_inverse_15 : decode bc_R_inverse 15 = .ok (.invokestatic 67, 3) := by decide +kernel
theorem dc_R_inverse_18 : decode bc_R_inverse 18 = .ok (.ifCond .eq 21, 3) := by decide +kernel
theorem dc_R_inverse_21 : decode bc_R_inverse 21 = .ok (.aload_n 0, 1) := by decide +kernel
theorem dc_R_inverse_22 : decode bc_R_inverse 22 = .ok (.getfield 17, 3) := by decide +kernel
theorem dc_R_inverse_25 : decode bc_R_inverse 25 = .ok (.iload_n 3, 1) := by decide +kernel
theorem dc_R_inverse_26 : decode bc_R_inverse 26 = .ok (.baload, 1) := by decide +kernel
theorem dc_R_inverse_27 : decode bc_R_inverse 27 = .ok (.ifCond .ne 12, 3) := by decide +kernel
theorem dc_R_inverse_30 : decode bc_R_inverse 30 = .ok (.aload_n 0, 1) := by decide +kernel
theorem dc_R_inverse_31 : decode bc_R_inverse 31 = .ok (.getfield 14, 3) := by decide +kernel
theorem dc_R_inverse_34 : decode bc_R_inverse 34 = .ok (.iload_n 3, 1) := by decide +kernel
theorem dc_R_inverse_35 : decode bc_R_inverse 35 = .ok (.iaload, 1) := by decide +kernel
theorem dc_R_inverse_36 : decode bc_R_inverse 36 = .ok (.ifCond .ne 5, 3) := by decide +kernel
theorem dc_R_inverse_39 : decode bc_R_inverse 39 = .ok (.iconst 0, 1) := by decide +kernel
theorem dc_R_inverse_40 : decode bc_R_inverse 40 = .ok (.ireturn, 1) := by decide +kernel
theorem dc_R_inverse_41 : decode bc_R_inverse 41 = .ok (.aload_n 0, 1) := by decide +kernel
theorem dc_R_inverse_42 : decode bc_R_inverse 42 = .ok (.bipush 19, 2) := by decide +kernel
theorem dc_R_inverse_44 : decode bc_R_inverse 44 = .ok (.iload_n 3, 1) := by decide +kernel
theorem dc_R_inverse_45 : decode bc_R_inverse 45 = .ok (.invokevirtual 64, 3) := by decide +kernel
theorem dc_R_inverse_48 : decode bc_R_inverse 48 = .ok (.aload_n 0, 1) := by decide +kernel
theorem dc_R_inverse_49 : decode bc_R_inverse 49 = .ok (.iload_n 2, 1) := by decide +kernel
theorem dc_R_inverse_50 : decode bc_R_inverse 50 = .ok (.invokevirtual 117, 3) := by decide +kernel
theorem dc_R_inverse_53 : decode bc_R_inverse 53 = .ok (.ifCond .eq 18, 3) := by decide +kernel
theorem dc_R_inverse_56 : decode bc_R_inverse 56 = .ok (.aload_n 0, 1) := by decide +kernel
theorem dc_R_inverse_57 : decode bc_R_inverse 57 = .ok (.iload_n 1, 1) := by decide +kernel
theorem dc_R_inverse_58 : decode bc_R_inverse 58 = .ok (.bipush 20, 2) := by decide +kernel
theorem dc_R_inverse_60 : decode bc_R_inverse 60 = .ok (.iconst 0, 1) := by decide +kernel
theorem dc_R_inverse_61 : decode bc_R_inverse 61 = .ok (.invokevirtual 75, 3) := by decide +kernel
theorem dc_R_inverse_64 : decode bc_R_inverse 64 = .ok (.ifCond .eq 7, 3) := by decide +kernel
theorem dc_R_inverse_67 : decode bc_R_inverse 67 = .ok (.iconst 1, 1) := by decide +kernel
theorem dc_R_inverse_68 : decode bc_R_inverse 68 = .ok (.goto 4, 3) := by decide +kernel
theorem dc_R_inverse_71 : decode bc_R_inverse 71 = .ok (.iconst 0, 1) := by decide +kernel
theorem dc_R_inverse_72 : decode bc_R_inverse 72 = .ok (.ireturn, 1) := by decide +kernel
theorem dc_R_inverted_0 : decode bc_R_inverted 0 = .ok (.aload_n 0, 1) := by decide +kernel
theorem dc_R_inverted_1 : decode bc_R_inverted 1 = .ok (.bipush 18, 2) := by decide +kernel
theorem dc_R_inverted_3 : decode bc_R_inverted 3 = .ok (.iload_n 1, 1) := by decide +kernel
theorem dc_R_inverted_4 : decode bc_R_inverted 4 = .ok (.invokevirtual 111, 3) := by decide +kernel
theorem dc_R_inverted_7 : decode bc_R_inverted 7 = .ok (.aload_n 0, 1) := by decide +kernel
theorem dc_R_inverted_8 : decode bc_R_inverted 8 = .ok (.bipush 21, 2) := by decide +kernel
theorem dc_R_inverted_10 : decode bc_R_inverted 10 = .ok (.bipush 19, 2) := by decide +kernel
theorem dc_R_inverted_12 : decode bc_R_inverted 12 = .ok (.invokevirtual 64, 3) := by decide +kernel
theorem dc_R_inverted_15 : decode bc_R_inverted 15 = .ok (.bipush 22, 2) := by decide +kernel
theorem dc_R_inverted_17 : decode bc_R_inverted 17 = .ok (.istore_n 2, 1) := by decide +kernel
theorem dc_R_inverted_18 : decode bc_R_inverted 18 = .ok (.bipush 23, 2) := by decide +kernel
theorem dc_R_inverted_20 : decode bc_R_inverted 20 = .ok (.istore_n 3, 1) := by decide +kernel
theorem dc_R_inverted_21 : decode bc_R_inverted 21 = .ok (.aload_n 0, 1) := by decide +kernel
theorem dc_R_inverted_22 : decode bc_R_inverted 22 = .ok (.getfield 14, 3) := by decide +kernel
theorem dc_R_inverted_25 : decode bc_R_inverted 25 = .ok (.iload_n 2, 1) := by decide +kernel
theorem dc_R_inverted_26 : decode bc_R_inverted 26 = .ok (.iconst 0, 1) := by decide +kernel
theorem dc_R_inverted_27 : decode bc_R_inverted 27 = .ok (.iastore, 1) := by decide +kernel
theorem dc_R_inverted_28 : decode bc_R_inverted 28 = .ok (.aload_n 0, 1) := by decide +kernel
theorem dc_R_inverted_29 : decode bc_R_inverted 29 = .ok (.iload_n 3, 1) := by decide +kernel
theorem dc_R_inverted_30 : decode bc_R_inverted 30 = .ok (.lconst 1, 1) := by decide +kernel
theorem dc_R_inverted_31 : decode bc_R_inverted 31 = .ok (.invokevirtual 71, 3) := by decide +kernel
theorem dc_R_inverted_34 : decode bc_R_inverted 34 = .ok (.iconst 0, 1) := by decide +kernel
theorem dc_R_inverted_35 : decode bc_R_inverted 35 = .ok (.istore 4, 2) := by decide +kernel
theorem dc_R_inverted_37 : decode bc_R_inverted 37 = .ok (.aload_n 0, 1) := by decide +kernel
theorem dc_R_inverted_38 : decode bc_R_inverted 38 = .ok (.getfield 14, 3) := by decide +kernel
theorem dc_R_inverted_41 : decode bc_R_inverted 41 = .ok (.bipush 18, 2) := by decide +kernel
theorem dc_R_inverted_43 : decode bc_R_inverted 43 = .ok (.iaload, 1) := by decide +kernel
theorem dc_R_inverted_44 : decode bc_R_inverted 44 = .ok (.ifCond .le 77, 3) := by decide +kernel
theorem dc_R_inverted_47 : decode bc_R_inverted 47 = .ok (.aload_n 0, 1) := by decide +kernel
theorem dc_R_inverted_48 : decode bc_R_inverted 48 = .ok (.bipush 16, 2) := by decide +kernel
theorem dc_R_inverted_50 : decode bc_R_inverted 50 = .ok (.bipush 17, 2) := by decide +kernel
theorem dc_R_inverted_52 : decode bc_R_inverted 52 = .ok (.bipush 21, 2) := by decide +kernel
theorem dc_R_inverted_54 : decode bc_R_inverted 54 = .ok (.bipush 18, 2) := by decide +kernel
theorem dc_R_inverted_56 : decode bc_R_inverted 56 = .ok (.invokevirtual 89, 3) := by decide +kernel
theorem dc_R_inverted_59 : decode bc_R_inverted 59 = .ok (.aload_n 0, 1) := by decide +kernel
theorem dc_R_inverted_60 : decode bc_R_inverted 60 = .ok (.bipush 21, 2) := by decide +kernel
theorem dc_R_inverted_62 : decode bc_R_inverted 62 = .ok (.bipush 18, 2) := by decide +kernel
theorem dc_R_inverted_64 : decode bc_R_inverted 64 = .ok (.invokevirtual 64, 3) := by decide +kernel
theorem dc_R_inverted_67 : decode bc_R_inverted 67 = .ok (.aload_n 0, 1) := by decide +kernel
theorem dc_R_inverted_68 : decode bc_R_inverted 68 = .ok (.bipush 18, 2) := by decide +kernel
theorem dc_R_inverted_70 : decode bc_R_inverted 70 = .ok (.bipush 17, 2) := by decide +kernel
theorem dc_R_inverted_72 : decode bc_R_inverted 72 = .ok (.invokevirtual 64, 3) := by decide +kernel
theorem dc_R_inverted_75 : decode bc_R_inverted 75 = .ok (.aload_n 0, 1) := by decide +kernel
theorem dc_R_inverted_76 : decode bc_R_inverted 76 = .ok (.bipush 17, 2) := by decide +kernel
theorem dc_R_inverted_78 : decode bc_R_inverted 78 = .ok (.bipush 16, 2) := by decide +kernel
theorem dc_R_inverted_80 : decode bc_R_inverted 80 = .ok (.iload_n 3, 1) := by decide +kernel
theorem dc_R_inverted_81 : decode bc_R_inverted 81 = .ok (.invokevirtual 86, 3) := by decide +kernel
theorem dc_R_inverted_84 : decode bc_R_inverted 84 = .ok (.aload_n 0, 1) := by decide +kernel
theorem dc_R_inverted_85 : decode bc_R_inverted 85 = .ok (.bipush 17, 2) := by decide +kernel
theorem dc_R_inverted_87 : decode bc_R_inverted 87 = .ok (.bipush 17, 2) := by decide +kernel
theorem dc_R_inverted_89 : decode bc_R_inverted 89 = .ok (.iload_n 2, 1) := by decide +kernel
theorem dc_R_inverted_90 : decode bc_R_inverted 90 = .ok (.invokevirtual 79, 3) := by decide +kernel
theorem dc_R_inverted_93 : decode bc_R_inverted 93 = .ok (.aload_n 0, 1) := by decide +kernel
theorem dc_R_inverted_94 : decode bc_R_inverted 94 = .ok (.iload_n 2, 1) := by decide +kernel
theorem dc_R_inverted_95 : decode bc_R_inverted 95 = .ok (.iload_n 3, 1) := by decide +kernel
theorem dc_R_inverted_96 : decode bc_R_inverted 96 = .ok (.invokevirtual 64, 3) := by decide +kernel
theorem dc_R_inverted_99 : decode bc_R_inverted 99 = .ok (.aload_n 0, 1) := by decide +kernel
theorem dc_R_inverted_100 : decode bc_R_inverted 100 = .ok (.iload_n 3, 1) := by decide +kernel
theorem dc_R_inverted_101 : decode bc_R_inverted 101 = .ok (.bipush 17, 2) := by decide +kernel
theorem dc_R_inverted_103 : decode bc_R_inverted 103 = .ok (.invokevirtual 64, 3) := by decide +kernel
theorem dc_R_inverted_106 : decode bc_R_inverted 106 = .ok (.iload 4, 2) := by decide +kernel
theorem dc_R_inverted_108 : decode bc_R_inverted 108 = .ok (.ifCond .ne 7, 3) := by decide +kernel
theorem dc_R_inverted_111 : decode bc_R_inverted 111 = .ok (.iconst 1, 1) := by decide +kernel
theorem dc_R_inverted_112 : decode bc_R_inverted 112 = .ok (.goto 4, 3) := by decide +kernel
theorem dc_R_inverted_115 : decode bc_R_inverted 115 = .ok (.iconst 0, 1) := by decide +kernel
theorem dc_R_inverted_116 : decode bc_R_inverted 116 = .ok (.istore 4, 2) := by decide +kernel
theorem dc_R_inverted_118 : decode bc_R_inverted 118 = .ok (.goto (-81), 3) := by decide +kernel
theorem dc_R_inverted_121 : decode bc_R_inverted 121 = .ok (.aload_n 0, 1) := by decide +kernel
theorem dc_R_inverted_122 : decode bc_R_inverted 122 = .ok (.getfield 14, 3) := by decide +kernel
theorem dc_R_inverted_125 : decode bc_R_inverted 125 = .ok (.bipush 21, 2) := by decide +kernel
theorem dc_R_inverted_127 : decode bc_R_inverted 127 = .ok (.iaload, 1) := by decide +kernel
theorem dc_R_inverted_128 : decode bc_R_inverted 128 = .ok (.iconst 1, 1) := by decide +kernel
theorem dc_R_inverted_129 : decode bc_R_inverted 129 = .ok (.if_icmp .ne 17, 3) := by decide +kernel
theorem dc_R_inverted_132 : decode bc_R_inverted 132 = .ok (.aload_n 0, 1) := by decide +kernel
theorem dc_R_inverted_133 : decode bc_R_inverted 133 = .ok (.getfield 8, 3) := by decide +kernel
theorem dc_R_inverted_136 : decode bc_R_inverted 136 = .ok (.bipush 21, 2) := by decide +kernel
theorem dc_R_inverted_138 : decode bc_R_inverted 138 = .ok (.invokestatic 22, 3) := by decide +kernel
theorem dc_R_inverted_141 : decode bc_R_inverted 141 = .ok (.iaload, 1) := by decide +kernel
theorem dc_R_inverted_142 : decode bc_R_inverted 142 = .ok (.iconst 1, 1) := by decide +kernel
theorem dc_R_inverted_143 : decode bc_R_inverted 143 = .ok (.if_icmp .eq 5, 3) := by decide +kernel
theorem dc_R_inverted_146 : decode bc_R_inverted 146 = .ok (.iconst 0, 1) := by decide +kernel
theorem dc_R_inverted_147 : decode bc_R_inverted 147 = .ok (.ireturn, 1) := by decide +kernel
theorem dc_R_inverted_148 : decode bc_R_inverted 148 = .ok (.aload_n 0, 1) := by decide +kernel
theorem dc_R_inverted_149 : decode bc_R_inverted 149 = .ok (.getfield 14, 3) := by decide +kernel
theorem dc_R_inverted_152 : decode bc_R_inverted 152 = .ok (.bipush 19, 2) := by decide +kernel
theorem dc_R_inverted_154 : decode bc_R_inverted 154 = .ok (.iaload, 1) := by decide +kernel
theorem dc_R_inverted_155 : decode bc_R_inverted 155 = .ok (.iconst 1, 1) := by decide +kernel
theorem dc_R_inverted_156 : decode bc_R_inverted 156 = .ok (.if_icmp .ne 24, 3) := by decide +kernel
theorem dc_R_inverted_159 : decode bc_R_inverted 159 = .ok (.aload_n 0, 1) := by decide +kernel
theorem dc_R_inverted_160 : decode bc_R_inverted 160 = .ok (.getfield 8, 3) := by decide +kernel
theorem dc_R_inverted_163 : decode bc_R_inverted 163 = .ok (.bipush 19, 2) := by decide +kernel
theorem dc_R_inverted_165 : decode bc_R_inverted 165 = .ok (.invokestatic 22, 3) := by decide +kernel
theorem dc_R_inverted_168 : decode bc_R_inverted 168 = .ok (.iaload, 1) := by decide +kernel
theorem dc_R_inverted_169 : decode bc_R_inverted 169 = .ok (.iconst 1, 1) := by decide +kernel
theorem dc_R_inverted_170 : decode bc_R_inverted 170 = .ok (.if_icmp .ne 10, 3) := by decide +kernel
theorem dc_R_inverted_173 : decode bc_R_inverted 173 = .ok (.aload_n 0, 1) := by decide +kernel
theorem dc_R_inverted_174 : decode bc_R_inverted 174 = .ok (.getfield 14, 3) := by decide +kernel
theorem dc_R_inverted_177 : decode bc_R_inverted 177 = .ok (.iload_n 2, 1) := by decide +kernel
theorem dc_R_inverted_178 : decode bc_R_inverted 178 = .ok (.iconst 0, 1) := by decide +kernel
theorem dc_R_inverted_179 : decode bc_R_inverted 179 = .ok (.iastore, 1) := by decide +kernel
theorem dc_R_inverted_180 : decode bc_R_inverted 180 = .ok (.iload 4, 2) := by decide +kernel
theorem dc_R_inverted_182 : decode bc_R_inverted 182 = .ok (.ifCond .ne 12, 3) := by decide +kernel
theorem dc_R_inverted_185 : decode bc_R_inverted 185 = .ok (.aload_n 0, 1) := by decide +kernel
theorem dc_R_inverted_186 : decode bc_R_inverted 186 = .ok (.getfield 14, 3) := by decide +kernel
theorem dc_R_inverted_189 : decode bc_R_inverted 189 = .ok (.iload_n 2, 1) := by decide +kernel
theorem dc_R_inverted_190 : decode bc_R_inverted 190 = .ok (.iaload, 1) := by decide +kernel
theorem dc_R_inverted_191 : decode bc_R_inverted 191 = .ok (.ifCond .ne 13, 3) := by decide +kernel
theorem dc_R_inverted_194 : decode bc_R_inverted 194 = .ok (.aload_n 0, 1) := by decide +kernel
theorem dc_R_inverted_195 : decode bc_R_inverted 195 = .ok (.bipush 20, 2) := by decide +kernel
theorem dc_R_inverted_197 : decode bc_R_inverted 197 = .ok (.iload_n 2, 1) := by decide +kernel
theorem dc_R_inverted_198 : decode bc_R_inverted 198 = .ok (.invokevirtual 64, 3) := by decide +kernel
theorem dc_R_inverted_201 : decode bc_R_inverted 201 = .ok (.goto 12, 3) := by decide +kernel
theorem dc_R_inverted_204 : decode bc_R_inverted 204 = .ok (.aload_n 0, 1) := by decide +kernel
theorem dc_R_inverted_205 : decode bc_R_inverted 205 = .ok (.bipush 20, 2) := by decide +kernel
theorem dc_R_inverted_207 : decode bc_R_inverted 207 = .ok (.bipush 19, 2) := by decide +kernel
theorem dc_R_inverted_209 : decode bc_R_inverted 209 = .ok (.iload_n 2, 1) := by decide +kernel
theorem dc_R_inverted_210 : decode bc_R_inverted 210 = .ok (.invokevirtual 57, 3) := by decide +kernel
theorem dc_R_inverted_213 : decode bc_R_inverted 213 = .ok (.iconst 1, 1) := by decide +kernel
theorem dc_R_inverted_214 : decode bc_R_inverted 214 = .ok (.ireturn, 1) := by decide +kernel
theorem dc_R_residue_0 : decode bc_R_residue 0 = .ok (.aload_n 0, 1) := by decide +kernel
theorem dc_R_residue_1 : decode bc_R_residue 1 = .ok (.bipush 16, 2) := by decide +kernel
theorem dc_R_residue_3 : decode bc_R_residue 3 = .ok (.iload_n 2, 1) := by decide +kernel
theorem dc_R_residue_4 : decode bc_R_residue 4 = .ok (.invokevirtual 64, 3) := by decide +kernel
theorem dc_R_residue_7 : decode bc_R_residue 7 = .ok (.aload_n 0, 1) := by decide +kernel
theorem dc_R_residue_8 : decode bc_R_residue 8 = .ok (.iload_n 1, 1) := by decide +kernel
theorem dc_R_residue_9 : decode bc_R_residue 9 = .ok (.bipush 16, 2) := by decide +kernel
theorem dc_R_residue_11 : decode bc_R_residue 11 = .ok (.bipush 19, 2) := by decide +kernel
theorem dc_R_residue_13 : decode bc_R_residue 13 = .ok (.invokevirtual 114, 3) := by decide +kernel
theorem dc_R_residue_16 : decode bc_R_residue 16 = .ok (.aload_n 0, 1) := by decide +kernel
theorem dc_R_residue_17 : decode bc_R_residue 17 = .ok (.getfield 17, 3) := by decide +kernel
theorem dc_R_residue_20 : decode bc_R_residue 20 = .ok (.iload_n 2, 1) := by decide +kernel
theorem dc_R_residue_21 : decode bc_R_residue 21 = .ok (.baload, 1) := by decide +kernel
theorem dc_R_residue_22 : decode bc_R_residue 22 = .ok (.ifCond .eq 20, 3) := by decide +kernel
theorem dc_R_residue_25 : decode bc_R_residue 25 = .ok (.aload_n 0, 1) := by decide +kernel
theorem dc_R_residue_26 : decode bc_R_residue 26 = .ok (.getfield 14, 3) := by decide +kernel
theorem dc_R_residue_29 : decode bc_R_residue 29 = .ok (.iload_n 1, 1) := by decide +kernel
theorem dc_R_residue_30 : decode bc_R_residue 30 = .ok (.iaload, 1) := by decide +kernel
theorem dc_R_residue_31 : decode bc_R_residue 31 = .ok (.ifCond .le 11, 3) := by decide +kernel
theorem dc_R_residue_34 : decode bc_R_residue 34 = .ok (.aload_n 0, 1) := by decide +kernel
theorem dc_R_residue_35 : decode bc_R_residue 35 = .ok (.iload_n 1, 1) := by decide +kernel
theorem dc_R_residue_36 : decode bc_R_residue 36 = .ok (.bipush 19, 2) := by decide +kernel
theorem dc_R_residue_38 : decode bc_R_residue 38 = .ok (.iload_n 1, 1) := by decide +kernel
theorem dc_R_residue_39 : decode bc_R_residue 39 = .ok (.invokevirtual 57, 3) := by decide +kernel
theorem dc_R_residue_42 : decode bc_R_residue 42 = .ok (.return_, 1) := by decide +kernel
theorem dc_R_rest_0 : decode bc_R_rest 0 = .ok (.aload_n 0, 1) := by decide +kernel
theorem dc_R_rest_1 : decode bc_R_rest 1 = .ok (.getfield 14, 3) := by decide +kernel
theorem dc_R_rest_4 : decode bc_R_rest 4 = .ok (.iload_n 1, 1) := by decide +kernel
theorem dc_R_rest_5 : decode bc_R_rest 5 = .ok (.iconst 0, 1) := by decide +kernel
theorem dc_R_rest_6 : decode bc_R_rest 6 = .ok (.iastore, 1) := by decide +kernel
theorem dc_R_rest_7 : decode bc_R_rest 7 = .ok (.aload_n 0, 1) := by decide +kernel
theorem dc_R_rest_8 : decode bc_R_rest 8 = .ok (.getfield 14, 3) := by decide +kernel
theorem dc_R_rest_11 : decode bc_R_rest 11 = .ok (.iload_n 2, 1) := by decide +kernel
theorem dc_R_rest_12 : decode bc_R_rest 12 = .ok (.iaload, 1) := by decide +kernel
theorem dc_R_rest_13 : decode bc_R_rest 13 = .ok (.iconst 1, 1) := by decide +kernel
theorem dc_R_rest_14 : decode bc_R_rest 14 = .ok (.isub, 1) := by decide +kernel
theorem dc_R_rest_15 : decode bc_R_rest 15 = .ok (.istore 4, 2) := by decide +kernel
theorem dc_R_rest_17 : decode bc_R_rest 17 = .ok (.iload 4, 2) := by decide +kernel
theorem dc_R_rest_19 : decode bc_R_rest 19 = .ok (.ifCond .lt 221, 3) := by decide +kernel
theorem dc_R_rest_22 : decode bc_R_rest 22 = .ok (.aload_n 0, 1) := by decide +kernel
theorem dc_R_rest_23 : decode bc_R_rest 23 = .ok (.getfield 14, 3) := by decide +kernel
theorem dc_R_rest_26 : decode bc_R_rest 26 = .ok (.iload_n 1, 1) := by decide +kernel
theorem dc_R_rest_27 : decode bc_R_rest 27 = .ok (.iaload, 1) := by decide +kernel
theorem dc_R_rest_28 : decode bc_R_rest 28 = .ok (.istore 5, 2) := by decide +kernel
theorem dc_R_rest_30 : decode bc_R_rest 30 = .ok (.iload 5, 2) := by decide +kernel
theorem dc_R_rest_32 : decode bc_R_rest 32 = .ok (.ifCond .le 35, 3) := by decide +kernel
theorem dc_R_rest_35 : decode bc_R_rest 35 = .ok (.aload_n 0, 1) := by decide +kernel
theorem dc_R_rest_36 : decode bc_R_rest 36 = .ok (.getfield 8, 3) := by decide +kernel
theorem dc_R_rest_39 : decode bc_R_rest 39 = .ok (.iload_n 1, 1) := by decide +kernel
theorem dc_R_rest_40 : decode bc_R_rest 40 = .ok (.invokestatic 22, 3) := by decide +kernel
theorem dc_R_rest_43 : decode bc_R_rest 43 = .ok (.iload 5, 2) := by decide +kernel
theorem dc_R_rest_45 : decode bc_R_rest 45 = .ok (.iadd, 1) := by decide +kernel
theorem dc_R_rest_46 : decode bc_R_rest 46 = .ok (.aload_n 0, 1) := by decide +kernel
theorem dc_R_rest_47 : decode bc_R_rest 47 = .ok (.getfield 8, 3) := by decide +kernel
theorem dc_R_rest_50 : decode bc_R_rest 50 = .ok (.iload_n 1, 1) := by decide +kernel
theorem dc_R_rest_51 : decode bc_R_rest 51 = .ok (.invokestatic 22, 3) := by decide +kernel
theorem dc_R_rest_54 : decode bc_R_rest 54 = .ok (.iload 5, 2) := by decide +kernel
theorem dc_R_rest_56 : decode bc_R_rest 56 = .ok (.iadd, 1) := by decide +kernel
theorem dc_R_rest_57 : decode bc_R_rest 57 = .ok (.iconst 1, 1) := by decide +kernel
theorem dc_R_rest_58 : decode bc_R_rest 58 = .ok (.isub, 1) := by decide +kernel
theorem dc_R_rest_59 : decode bc_R_rest 59 = .ok (.iaload, 1) := by decide +kernel
theorem dc_R_rest_60 : decode bc_R_rest 60 = .ok (.iastore, 1) := by decide +kernel
theorem dc_R_rest_61 : decode bc_R_rest 61 = .ok (.iinc 5 (-1), 3) := by decide +kernel
theorem dc_R_rest_64 : decode bc_R_rest 64 = .ok (.goto (-34), 3) := by decide +kernel
theorem dc_R_rest_67 : decode bc_R_rest 67 = .ok (.aload_n 0, 1) := by decide +kernel
theorem dc_R_rest_68 : decode bc_R_rest 68 = .ok (.getfield 8, 3) := by decide +kernel
theorem dc_R_rest_71 : decode bc_R_rest 71 = .ok (.iload_n 1, 1) := by decide +kernel
theorem dc_R_rest_72 : decode bc_R_rest 72 = .ok (.invokestatic 22, 3) := by decide +kernel
theorem dc_R_rest_75 : decode bc_R_rest 75 = .ok (.aload_n 0, 1) := by decide +kernel
theorem dc_R_rest_76 : decode bc_R_rest 76 = .ok (.getfield 8, 3) := by decide +kernel
theorem dc_R_rest_79 : decode bc_R_rest 79 = .ok (.iload_n 2, 1) := by decide +kernel
theorem dc_R_rest_80 : decode bc_R_rest 80 = .ok (.invokestatic 22, 3) := by decide +kernel
theorem dc_R_rest_83 : decode bc_R_rest 83 = .ok (.iload 4, 2) := by decide +kernel
theorem dc_R_rest_85 : decode bc_R_rest 85 = .ok (.iadd, 1) := by decide +kernel
theorem dc_R_rest_86 : decode bc_R_rest 86 = .ok (.iaload, 1) := by decide +kernel
theorem dc_R_rest_87 : decode bc_R_rest 87 = .ok (.iastore, 1) := by decide +kernel
theorem dc_R_rest_88 : decode bc_R_rest 88 = .ok (.aload_n 0, 1) := by decide +kernel
theorem dc_R_rest_89 : decode bc_R_rest 89 = .ok (.iload_n 1, 1) := by decide +kernel
theorem dc_R_rest_90 : decode bc_R_rest 90 = .ok (.aload_n 0, 1) := by decide +kernel
theorem dc_R_rest_91 : decode bc_R_rest 91 = .ok (.getfield 14, 3) := by decide +kernel
theorem dc_R_rest_94 : decode bc_R_rest 94 = .ok (.iload_n 1, 1) := by decide +kernel
theorem dc_R_rest_95 : decode bc_R_rest 95 = .ok (.iaload, 1) := by decide +kernel
theorem dc_R_rest_96 : decode bc_R_rest 96 = .ok (.iconst 1, 1) := by decide +kernel
theorem dc_R_rest_97 : decode bc_R_rest 97 = .ok (.iadd, 1) := by decide +kernel
theorem dc_R_rest_98 : decode bc_R_rest 98 = .ok (.invokevirtual 28, 3) := by decide +kernel
theorem dc_R_rest_101 : decode bc_R_rest 101 = .ok (.aload_n 0, 1) := by decide +kernel
theorem dc_R_rest_102 : decode bc_R_rest 102 = .ok (.iload_n 1, 1) := by decide +kernel
theorem dc_R_rest_103 : decode bc_R_rest 103 = .ok (.iload_n 3, 1) := by decide +kernel
theorem dc_R_rest_104 : decode bc_R_rest 104 = .ok (.invokevirtual 54, 3) := by decide +kernel
theorem dc_R_rest_107 : decode bc_R_rest 107 = .ok (.ifCond .lt 127, 3) := by decide +kernel
theorem dc_R_rest_110 : decode bc_R_rest 110 = .ok (.aload_n 0, 1) := by decide +kernel
theorem dc_R_rest_111 : decode bc_R_rest 111 = .ok (.getfield 14, 3) := by decide +kernel
theorem dc_R_rest_114 : decode bc_R_rest 114 = .ok (.iload_n 3, 1) := by decide +kernel
theorem dc_R_rest_115 : decode bc_R_rest 115 = .ok (.iaload, 1) := by decide +kernel
theorem dc_R_rest_116 : decode bc_R_rest 116 = .ok (.iconst 1, 1) := by decide +kernel
theorem dc_R_rest_117 : decode bc_R_rest 117 = .ok (.isub, 1) := by decide +kernel
theorem dc_R_rest_118 : decode bc_R_rest 118 = .ok (.istore 5, 2) := by decide +kernel
theorem dc_R_rest_120 : decode bc_R_rest 120 = .ok (.aload_n 0, 1) := by decide +kernel
theorem dc_R_rest_121 : decode bc_R_rest 121 = .ok (.iload_n 1, 1) := by decide +kernel
theorem dc_R_rest_122 : decode bc_R_rest 122 = .ok (.iload 5, 2) := by decide +kernel
theorem dc_R_rest_124 : decode bc_R_rest 124 = .ok (.iconst 1, 1) := by decide +kernel
theorem dc_R_rest_125 : decode bc_R_rest 125 = .ok (.iadd, 1) := by decide +kernel
theorem dc_R_rest_126 : decode bc_R_rest 126 = .ok (.invokevirtual 32, 3) := by decide +kernel
theorem dc_R_rest_129 : decode bc_R_rest 129 = .ok (.i2l, 1) := by decide +kernel
theorem dc_R_rest_130 : decode bc_R_rest 130 = .ok (.bipush 32, 2) := by decide +kernel
theorem dc_R_rest_132 : decode bc_R_rest 132 = .ok (.lshl, 1) := by decide +kernel
theorem dc_R_rest_133 : decode bc_R_rest 133 = .ok (.aload_n 0, 1) := by decide +kernel
theorem dc_R_rest_134 : decode bc_R_rest 134 = .ok (.iload_n 1, 1) := by decide +kernel
theorem dc_R_rest_135 : decode bc_R_rest 135 = .ok (.iload 5, 2) := by decide +kernel
theorem dc_R_rest_137 : decode bc_R_rest 137 = .ok (.invokevirtual 32, 3) := by decide +kernel
theorem dc_R_rest_140 : decode bc_R_rest 140 = .ok (.i2l, 1) := by decide +kernel
theorem dc_R_rest_141 : decode bc_R_rest 141 = .ok (.bipush 16, 2) := by decide +kernel
theorem dc_R_rest_143 : decode bc_R_rest 143 = .ok (.lshl, 1) := by decide +kernel
theorem dc_R_rest_144 : decode bc_R_rest 144 = .ok (.lor, 1) := by decide +kernel
theorem dc_R_rest_145 : decode bc_R_rest 145 = .ok (.iload 5, 2) := by decide +kernel
theorem dc_R_rest_147 : decode bc_R_rest 147 = .ok (.ifCond .le 15, 3) := by decide +kernel
theorem dc_R_rest_150 : decode bc_R_rest 150 = .ok (.aload_n 0, 1) := by decide +kernel
theorem dc_R_rest_151 : decode bc_R_rest 151 = .ok (.iload_n 1, 1) := by decide +kernel
theorem dc_R_rest_152 : decode bc_R_rest 152 = .ok (.iload 5, 2) := by decide +kernel
theorem dc_R_rest_154 : decode bc_R_rest 154 = .ok (.iconst 1, 1) := by decide +kernel
theorem dc_R_rest_155 : decode bc_R_rest 155 = .ok (.isub, 1) := by decide +kernel
theorem dc_R_rest_156 : decode bc_R_rest 156 = .ok (.invokevirtual 32, 3) := by decide +kernel
theorem dc_R_rest_159 : decode bc_R_rest 159 = .ok (.goto 4, 3) := by decide +kernel
theorem dc_R_rest_162 : decode bc_R_rest 162 = .ok (.iconst 0, 1) := by decide +kernel
theorem dc_R_rest_163 : decode bc_R_rest 163 = .ok (.i2l, 1) := by decide +kernel
theorem dc_R_rest_164 : decode bc_R_rest 164 = .ok (.lor, 1) := by decide +kernel
theorem dc_R_rest_165 : decode bc_R_rest 165 = .ok (.lstore 6, 2) := by decide +kernel
theorem dc_R_rest_167 : decode bc_R_rest 167 = .ok (.aload_n 0, 1) := by decide +kernel
theorem dc_R_rest_168 : decode bc_R_rest 168 = .ok (.iload_n 3, 1) := by decide +kernel
theorem dc_R_rest_169 : decode bc_R_rest 169 = .ok (.iload 5, 2) := by decide +kernel
theorem dc_R_rest_171 : decode bc_R_rest 171 = .ok (.invokevirtual 32, 3) := by decide +kernel
theorem dc_R_rest_174 : decode bc_R_rest 174 = .ok (.i2l, 1) := by decide +kernel
theorem dc_R_rest_175 : decode bc_R_rest 175 = .ok (.bipush 16, 2) := by decide +kernel
theorem dc_R_rest_177 : decode bc_R_rest 177 = .ok (.lshl, 1) := by decide +kernel
theorem dc_R_rest_178 : decode bc_R_rest 178 = .ok (.iload 5, 2) := by decide +kernel
theorem dc_R_rest_180 : decode bc_R_rest 180 = .ok (.ifCond .le 15, 3) := by decide +kernel
theorem dc_R_rest_183 : decode bc_R_rest 183 = .ok (.aload_n 0, 1) := by decide +kernel
theorem dc_R_rest_184 : decode bc_R_rest 184 = .ok (.iload_n 3, 1) := by decide +kernel
theorem dc_R_rest_185 : decode bc_R_rest 185 = .ok (.iload 5, 2) := by decide +kernel
theorem dc_R_rest_187 : decode bc_R_rest 187 = .ok (.iconst 1, 1) := by decide +kernel
theorem dc_R_rest_188 : decode bc_R_rest 188 = .ok (.isub, 1) := by decide +kernel
theorem dc_R_rest_189 : decode bc_R_rest 189 = .ok (.invokevirtual 32, 3) := by decide +kernel
theorem dc_R_rest_192 : decode bc_R_rest 192 = .ok (.goto 4, 3) := by decide +kernel
theorem dc_R_rest_195 : decode bc_R_rest 195 = .ok (.iconst 0, 1) := by decide +kernel
theorem dc_R_rest_196 : decode bc_R_rest 196 = .ok (.i2l, 1) := by decide +kernel
theorem dc_R_rest_197 : decode bc_R_rest 197 = .ok (.lor, 1) := by decide +kernel
theorem dc_R_rest_198 : decode bc_R_rest 198 = .ok (.lconst 1, 1) := by decide +kernel
theorem dc_R_rest_199 : decode bc_R_rest 199 = .ok (.ladd, 1) := by decide +kernel
theorem dc_R_rest_200 : decode bc_R_rest 200 = .ok (.lstore 8, 2) := by decide +kernel
theorem dc_R_rest_202 : decode bc_R_rest 202 = .ok (.lload 6, 2) := by decide +kernel
theorem dc_R_rest_204 : decode bc_R_rest 204 = .ok (.lload 8, 2) := by decide +kernel
theorem dc_R_rest_206 : decode bc_R_rest 206 = .ok (.ldiv, 1) := by decide +kernel
theorem dc_R_rest_207 : decode bc_R_rest 207 = .ok (.lconst 1, 1) := by decide +kernel
theorem dc_R_rest_208 : decode bc_R_rest 208 = .ok (.lcmp, 1) := by decide +kernel
theorem dc_R_rest_209 : decode bc_R_rest 209 = .ok (.ifCond .ge 7, 3) := by decide +kernel
theorem dc_R_rest_212 : decode bc_R_rest 212 = .ok (.lconst 1, 1) := by decide +kernel
theorem dc_R_rest_213 : decode bc_R_rest 213 = .ok (.goto 8, 3) := by decide +kernel
theorem dc_R_rest_216 : decode bc_R_rest 216 = .ok (.lload 6, 2) := by decide +kernel
theorem dc_R_rest_218 : decode bc_R_rest 218 = .ok (.lload 8, 2) := by decide +kernel
theorem dc_R_rest_220 : decode bc_R_rest 220 = .ok (.ldiv, 1) := by decide +kernel
theorem dc_R_rest_221 : decode bc_R_rest 221 = .ok (.lstore 10, 2) := by decide +kernel
theorem dc_R_rest_223 : decode bc_R_rest 223 = .ok (.aload_n 0, 1) := by decide +kernel
theorem dc_R_rest_224 : decode bc_R_rest 224 = .ok (.iload_n 1, 1) := by decide +kernel
theorem dc_R_rest_225 : decode bc_R_rest 225 = .ok (.iload_n 3, 1) := by decide +kernel
theorem dc_R_rest_226 : decode bc_R_rest 226 = .ok (.lload 10, 2) := by decide +kernel
theorem dc_R_rest_228 : decode bc_R_rest 228 = .ok (.invokevirtual 61, 3) := by decide +kernel
theorem dc_R_rest_231 : decode bc_R_rest 231 = .ok (.goto (-130), 3) := by decide +kernel
theorem dc_R_rest_234 : decode bc_R_rest 234 = .ok (.iinc 4 (-1), 3) := by decide +kernel
theorem dc_R_rest_237 : decode bc_R_rest 237 = .ok (.goto (-220), 3) := by decide +kernel
theorem dc_R_rest_240 : decode bc_R_rest 240 = .ok (.return_, 1) := by decide +kernel
theorem dc_R_takeTimes_0 : decode bc_R_takeTimes 0 = .ok (.lconst 0, 1) := by decide +kernel
theorem dc_R_takeTimes_1 : decode bc_R_takeTimes 1 = .ok (.lstore 5, 2) := by decide +kernel
theorem dc_R_takeTimes_3 : decode bc_R_takeTimes 3 = .ok (.iconst 0, 1) := by decide +kernel
theorem dc_R_takeTimes_4 : decode bc_R_takeTimes 4 = .ok (.istore 7, 2) := by decide +kernel
theorem dc_R_takeTimes_6 : decode bc_R_takeTimes 6 = .ok (.iload 7, 2) := by decide +kernel
theorem dc_R_takeTimes_8 : decode bc_R_takeTimes 8 = .ok (.aload_n 0, 1) := by decide +kernel
theorem dc_R_takeTimes_9 : decode bc_R_takeTimes 9 = .ok (.getfield 14, 3) := by decide +kernel
theorem dc_R_takeTimes_12 : decode bc_R_takeTimes 12 = .ok (.iload_n 1, 1) := by decide +kernel
theorem dc_R_takeTimes_13 : decode bc_R_takeTimes 13 = .ok (.iaload, 1) := by decide +kernel
theorem dc_R_takeTimes_14 : decode bc_R_takeTimes 14 = .ok (.if_icmp .ge 64, 3) := by decide +kernel
theorem dc_R_takeTimes_17 : decode bc_R_takeTimes 17 = .ok (.aload_n 0, 1) := by decide +kernel
theorem dc_R_takeTimes_18 : decode bc_R_takeTimes 18 = .ok (.getfield 8, 3) := by decide +kernel
theorem dc_R_takeTimes_21 : decode bc_R_takeTimes 21 = .ok (.iload_n 1, 1) := by decide +kernel
theorem dc_R_takeTimes_22 : decode bc_R_takeTimes 22 = .ok (.invokestatic 22, 3) := by decide +kernel
theorem dc_R_takeTimes_25 : decode bc_R_takeTimes 25 = .ok (.iload 7, 2) := by decide +kernel
theorem dc_R_takeTimes_27 : decode bc_R_takeTimes 27 = .ok (.iadd, 1) := by decide +kernel
theorem dc_R_takeTimes_28 : decode bc_R_takeTimes 28 = .ok (.iaload, 1) := by decide +kernel
theorem dc_R_takeTimes_29 : decode bc_R_takeTimes 29 = .ok (.i2l, 1) := by decide +kernel
theorem dc_R_takeTimes_30 : decode bc_R_takeTimes 30 = .ok (.lload_n 3, 1) := by decide +kernel
theorem dc_R_takeTimes_31 : decode bc_R_takeTimes 31 = .ok (.aload_n 0, 1) := by decide +kernel
theorem dc_R_takeTimes_32 : decode bc_R_takeTimes 32 = .ok (.iload_n 2, 1) := by decide +kernel
theorem dc_R_takeTimes_33 : decode bc_R_takeTimes 33 = .ok (.iload 7, 2) := by decide +kernel
theorem dc_R_takeTimes_35 : decode bc_R_takeTimes 35 = .ok (.invokevirtual 32, 3) := by decide +kernel
theorem dc_R_takeTimes_38 : decode bc_R_takeTimes 38 = .ok (.i2l, 1) := by decide +kernel
theorem dc_R_takeTimes_39 : decode bc_R_takeTimes 39 = .ok (.lmul, 1) := by decide +kernel
theorem dc_R_takeTimes_40 : decode bc_R_takeTimes 40 = .ok (.lsub, 1) := by decide +kernel
theorem dc_R_takeTimes_41 : decode bc_R_takeTimes 41 = .ok (.lload 5, 2) := by decide +kernel
theorem dc_R_takeTimes_43 : decode bc_R_takeTimes 43 = .ok (.ladd, 1) := by decide +kernel
theorem dc_R_takeTimes_44 : decode bc_R_takeTimes 44 = .ok (.lstore 8, 2) := by decide +kernel
theorem dc_R_takeTimes_46 : decode bc_R_takeTimes 46 = .ok (.aload_n 0, 1) := by decide +kernel
theorem dc_R_takeTimes_47 : decode bc_R_takeTimes 47 = .ok (.getfield 8, 3) := by decide +kernel
theorem dc_R_takeTimes_50 : decode bc_R_takeTimes 50 = .ok (.iload_n 1, 1) := by decide +kernel
theorem dc_R_takeTimes_51 : decode bc_R_takeTimes 51 = .ok (.invokestatic 22, 3) := by decide +kernel
theorem dc_R_takeTimes_54 : decode bc_R_takeTimes 54 = .ok (.iload 7, 2) := by decide +kernel
theorem dc_R_takeTimes_56 : decode bc_R_takeTimes 56 = .ok (.iadd, 1) := by decide +kernel
theorem dc_R_takeTimes_57 : decode bc_R_takeTimes 57 = .ok (.lload 8, 2) := by decide +kernel
theorem dc_R_takeTimes_59 : decode bc_R_takeTimes 59 = .ok (.ldc2_w 26, 3) := by decide +kernel
theorem dc_R_takeTimes_62 : decode bc_R_takeTimes 62 = .ok (.land, 1) := by decide +kernel
theorem dc_R_takeTimes_63 : decode bc_R_takeTimes 63 = .ok (.l2i, 1) := by decide +kernel
theorem dc_R_takeTimes_64 : decode bc_R_takeTimes 64 = .ok (.iastore, 1) := by decide +kernel
theorem dc_R_takeTimes_65 : decode bc_R_takeTimes 65 = .ok (.lload 8, 2) := by decide +kernel
theorem dc_R_takeTimes_67 : decode bc_R_takeTimes 67 = .ok (.bipush 16, 2) := by decide +kernel
theorem dc_R_takeTimes_69 : decode bc_R_takeTimes 69 = .ok (.lshr, 1) := by decide +kernel
theorem dc_R_takeTimes_70 : decode bc_R_takeTimes 70 = .ok (.lstore 5, 2) := by decide +kernel
theorem dc_R_takeTimes_72 : decode bc_R_takeTimes 72 = .ok (.iinc 7 1, 3) := by decide +kernel
theorem dc_R_takeTimes_75 : decode bc_R_takeTimes 75 = .ok (.goto (-69), 3) := by decide +kernel
theorem dc_R_takeTimes_78 : decode bc_R_takeTimes 78 = .ok (.aload_n 0, 1) := by decide +kernel
theorem dc_R_takeTimes_79 : decode bc_R_takeTimes 79 = .ok (.iload_n 1, 1) := by decide +kernel
theorem dc_R_takeTimes_80 : decode bc_R_takeTimes 80 = .ok (.aload_n 0, 1) := by decide +kernel
theorem dc_R_takeTimes_81 : decode bc_R_takeTimes 81 = .ok (.getfield 14, 3) := by decide +kernel
theorem dc_R_takeTimes_84 : decode bc_R_takeTimes 84 = .ok (.iload_n 1, 1) := by decide +kernel
theorem dc_R_takeTimes_85 : decode bc_R_takeTimes 85 = .ok (.iaload, 1) := by decide +kernel
theorem dc_R_takeTimes_86 : decode bc_R_takeTimes 86 = .ok (.invokevirtual 28, 3) := by decide +kernel
theorem dc_R_takeTimes_89 : decode bc_R_takeTimes 89 = .ok (.return_, 1) := by decide +kernel
theorem dc_R_modulo_0 : decode bc_R_modulo 0 = .ok (.iload_n 1, 1) := by decide +kernel
theorem dc_R_modulo_1 : decode bc_R_modulo 1 = .ok (.invokestatic 67, 3) := by decide +kernel
theorem dc_R_modulo_4 : decode bc_R_modulo 4 = .ok (.ifCond .eq 45, 3) := by decide +kernel
theorem dc_R_modulo_7 : decode bc_R_modulo 7 = .ok (.iload_n 2, 1) := by decide +kernel
theorem dc_R_modulo_8 : decode bc_R_modulo 8 = .ok (.invokestatic 67, 3) := by decide +kernel
theorem dc_R_modulo_11 : decode bc_R_modulo 11 = .ok (.ifCond .eq 38, 3) := by decide +kernel
theorem dc_R_modulo_14 : decode bc_R_modulo 14 = .ok (.iload_n 3, 1) := by decide +kernel
theorem dc_R_modulo_15 : decode bc_R_modulo 15 = .ok (.invokestatic 67, 3) := by decide +kernel
theorem dc_R_modulo_18 : decode bc_R_modulo 18 = .ok (.ifCond .eq 31, 3) := by decide +kernel
theorem dc_R_modulo_21 : decode bc_R_modulo 21 = .ok (.iload 4, 2) := by decide +kernel
theorem dc_R_modulo_23 : decode bc_R_modulo 23 = .ok (.invokestatic 67, 3) := by decide +kernel
theorem dc_R_modulo_26 : decode bc_R_modulo 26 = .ok (.ifCond .eq 23, 3) := by decide +kernel
theorem dc_R_modulo_29 : decode bc_R_modulo 29 = .ok (.aload_n 0, 1) := by decide +kernel
theorem dc_R_modulo_30 : decode bc_R_modulo 30 = .ok (.getfield 17, 3) := by decide +kernel
theorem dc_R_modulo_33 : decode bc_R_modulo 33 = .ok (.iload 4, 2) := by decide +kernel
theorem dc_R_modulo_35 : decode bc_R_modulo 35 = .ok (.baload, 1) := by decide +kernel
theorem dc_R_modulo_36 : decode bc_R_modulo 36 = .ok (.ifCond .ne 13, 3) := by decide +kernel
theorem dc_R_modulo_39 : decode bc_R_modulo 39 = .ok (.aload_n 0, 1) := by decide +kernel
theorem dc_R_modulo_40 : decode bc_R_modulo 40 = .ok (.getfield 14, 3) := by decide +kernel
theorem dc_R_modulo_43 : decode bc_R_modulo 43 = .ok (.iload 4, 2) := by decide +kernel
theorem dc_R_modulo_45 : decode bc_R_modulo 45 = .ok (.iaload, 1) := by decide +kernel
theorem dc_R_modulo_46 : decode bc_R_modulo 46 = .ok (.ifCond .ne 5, 3) := by decide +kernel
theorem dc_R_modulo_49 : decode bc_R_modulo 49 = .ok (.iconst 0, 1) := by decide +kernel
theorem dc_R_modulo_50 : decode bc_R_modulo 50 = .ok (.ireturn, 1) := by decide +kernel
theorem dc_R_modulo_51 : decode bc_R_modulo 51 = .ok (.aload_n 0, 1) := by decide +kernel
theorem dc_R_modulo_52 : decode bc_R_modulo 52 = .ok (.iload_n 3, 1) := by decide +kernel
theorem dc_R_modulo_53 : decode bc_R_modulo 53 = .ok (.invokevirtual 41, 3) := by decide +kernel
theorem dc_R_modulo_56 : decode bc_R_modulo 56 = .ok (.i2l, 1) := by decide +kernel
theorem dc_R_modulo_57 : decode bc_R_modulo 57 = .ok (.aload_n 0, 1) := by decide +kernel
theorem dc_R_modulo_58 : decode bc_R_modulo 58 = .ok (.iload 4, 2) := by decide +kernel
theorem dc_R_modulo_60 : decode bc_R_modulo 60 = .ok (.invokevirtual 41, 3) := by decide +kernel
theorem dc_R_modulo_63 : decode bc_R_modulo 63 = .ok (.i2l, 1) := by decide +kernel
theorem dc_R_modulo_64 : decode bc_R_modulo 64 = .ok (.lmul, 1) := by decide +kernel
theorem dc_R_modulo_65 : decode bc_R_modulo 65 = .ok (.aload_n 0, 1) := by decide +kernel
theorem dc_R_modulo_66 : decode bc_R_modulo 66 = .ok (.iload 4, 2) := by decide +kernel
theorem dc_R_modulo_68 : decode bc_R_modulo 68 = .ok (.invokevirtual 41, 3) := by decide +kernel
theorem dc_R_modulo_71 : decode bc_R_modulo 71 = .ok (.i2l, 1) := by decide +kernel
theorem dc_R_modulo_72 : decode bc_R_modulo 72 = .ok (.lmul, 1) := by decide +kernel
theorem dc_R_modulo_73 : decode bc_R_modulo 73 = .ok (.ldc2_w 120, 3) := by decide +kernel
theorem dc_R_modulo_76 : decode bc_R_modulo 76 = .ok (.lcmp, 1) := by decide +kernel
theorem dc_R_modulo_77 : decode bc_R_modulo 77 = .ok (.ifCond .le 5, 3) := by decide +kernel
theorem dc_R_modulo_80 : decode bc_R_modulo 80 = .ok (.iconst 0, 1) := by decide +kernel
theorem dc_R_modulo_81 : decode bc_R_modulo 81 = .ok (.ireturn, 1) := by decide +kernel
theorem dc_R_modulo_82 : decode bc_R_modulo 82 = .ok (.aload_n 0, 1) := by decide +kernel
theorem dc_R_modulo_83 : decode bc_R_modulo 83 = .ok (.bipush 19, 2) := by decide +kernel
theorem dc_R_modulo_85 : decode bc_R_modulo 85 = .ok (.iload 4, 2) := by decide +kernel
theorem dc_R_modulo_87 : decode bc_R_modulo 87 = .ok (.invokevirtual 64, 3) := by decide +kernel
theorem dc_R_modulo_90 : decode bc_R_modulo 90 = .ok (.aload_n 0, 1) := by decide +kernel
theorem dc_R_modulo_91 : decode bc_R_modulo 91 = .ok (.getfield 17, 3) := by decide +kernel
theorem dc_R_modulo_94 : decode bc_R_modulo 94 = .ok (.iload_n 3, 1) := by decide +kernel
theorem dc_R_modulo_95 : decode bc_R_modulo 95 = .ok (.baload, 1) := by decide +kernel
theorem dc_R_modulo_96 : decode bc_R_modulo 96 = .ok (.ifCond .eq 13, 3) := by decide +kernel
theorem dc_R_modulo_99 : decode bc_R_modulo 99 = .ok (.aload_n 0, 1) := by decide +kernel
theorem dc_R_modulo_100 : decode bc_R_modulo 100 = .ok (.iload_n 2, 1) := by decide +kernel
theorem dc_R_modulo_101 : decode bc_R_modulo 101 = .ok (.invokevirtual 117, 3) := by decide +kernel
theorem dc_R_modulo_104 : decode bc_R_modulo 104 = .ok (.ifCond .ne 5, 3) := by decide +kernel
theorem dc_R_modulo_107 : decode bc_R_modulo 107 = .ok (.iconst 0, 1) := by decide +kernel
theorem dc_R_modulo_108 : decode bc_R_modulo 108 = .ok (.ireturn, 1) := by decide +kernel
theorem dc_R_modulo_109 : decode bc_R_modulo 109 = .ok (.aload_n 0, 1) := by decide +kernel
theorem dc_R_modulo_110 : decode bc_R_modulo 110 = .ok (.getfield 17, 3) := by decide +kernel
theorem dc_R_modulo_113 : decode bc_R_modulo 113 = .ok (.iload_n 3, 1) := by decide +kernel
theorem dc_R_modulo_114 : decode bc_R_modulo 114 = .ok (.baload, 1) := by decide +kernel
theorem dc_R_modulo_115 : decode bc_R_modulo 115 = .ok (.ifCond .ne 10, 3) := by decide +kernel
theorem dc_R_modulo_118 : decode bc_R_modulo 118 = .ok (.aload_n 0, 1) := by decide +kernel
theorem dc_R_modulo_119 : decode bc_R_modulo 119 = .ok (.bipush 20, 2) := by decide +kernel
theorem dc_R_modulo_121 : decode bc_R_modulo 121 = .ok (.iload_n 2, 1) := by decide +kernel
theorem dc_R_modulo_122 : decode bc_R_modulo 122 = .ok (.invokevirtual 111, 3) := by decide +kernel
theorem dc_R_modulo_125 : decode bc_R_modulo 125 = .ok (.aload_n 0, 1) := by decide +kernel
theorem dc_R_modulo_126 : decode bc_R_modulo 126 = .ok (.bipush 16, 2) := by decide +kernel
theorem dc_R_modulo_128 : decode bc_R_modulo 128 = .ok (.lconst 1, 1) := by decide +kernel
theorem dc_R_modulo_129 : decode bc_R_modulo 129 = .ok (.invokevirtual 71, 3) := by decide +kernel
theorem dc_R_modulo_132 : decode bc_R_modulo 132 = .ok (.aload_n 0, 1) := by decide +kernel
theorem dc_R_modulo_133 : decode bc_R_modulo 133 = .ok (.bipush 18, 2) := by decide +kernel
theorem dc_R_modulo_135 : decode bc_R_modulo 135 = .ok (.bipush 16, 2) := by decide +kernel
theorem dc_R_modulo_137 : decode bc_R_modulo 137 = .ok (.bipush 19, 2) := by decide +kernel
theorem dc_R_modulo_139 : decode bc_R_modulo 139 = .ok (.invokevirtual 114, 3) := by decide +kernel
theorem dc_R_modulo_142 : decode bc_R_modulo 142 = .ok (.aload_n 0, 1) := by decide +kernel
theorem dc_R_modulo_143 : decode bc_R_modulo 143 = .ok (.iload_n 3, 1) := by decide +kernel
theorem dc_R_modulo_144 : decode bc_R_modulo 144 = .ok (.invokevirtual 41, 3) := by decide +kernel
theorem dc_R_modulo_147 : decode bc_R_modulo 147 = .ok (.iconst 1, 1) := by decide +kernel
theorem dc_R_modulo_148 : decode bc_R_modulo 148 = .ok (.isub, 1) := by decide +kernel
theorem dc_R_modulo_149 : decode bc_R_modulo 149 = .ok (.istore 5, 2) := by decide +kernel
theorem dc_R_modulo_151 : decode bc_R_modulo 151 = .ok (.iload 5, 2) := by decide +kernel
theorem dc_R_modulo_153 : decode bc_R_modulo 153 = .ok (.ifCond .lt 62, 3) := by decide +kernel
theorem dc_R_modulo_156 : decode bc_R_modulo 156 = .ok (.aload_n 0, 1) := by decide +kernel
theorem dc_R_modulo_157 : decode bc_R_modulo 157 = .ok (.bipush 16, 2) := by decide +kernel
theorem dc_R_modulo_159 : decode bc_R_modulo 159 = .ok (.bipush 18, 2) := by decide +kernel
theorem dc_R_modulo_161 : decode bc_R_modulo 161 = .ok (.bipush 18, 2) := by decide +kernel
theorem dc_R_modulo_163 : decode bc_R_modulo 163 = .ok (.invokevirtual 86, 3) := by decide +kernel
theorem dc_R_modulo_166 : decode bc_R_modulo 166 = .ok (.aload_n 0, 1) := by decide +kernel
theorem dc_R_modulo_167 : decode bc_R_modulo 167 = .ok (.bipush 18, 2) := by decide +kernel
theorem dc_R_modulo_169 : decode bc_R_modulo 169 = .ok (.bipush 16, 2) := by decide +kernel
theorem dc_R_modulo_171 : decode bc_R_modulo 171 = .ok (.bipush 19, 2) := by decide +kernel
theorem dc_R_modulo_173 : decode bc_R_modulo 173 = .ok (.invokevirtual 114, 3) := by decide +kernel
theorem dc_R_modulo_176 : decode bc_R_modulo 176 = .ok (.aload_n 0, 1) := by decide +kernel
theorem dc_R_modulo_177 : decode bc_R_modulo 177 = .ok (.iload_n 3, 1) := by decide +kernel
theorem dc_R_modulo_178 : decode bc_R_modulo 178 = .ok (.iload 5, 2) := by decide +kernel
theorem dc_R_modulo_180 : decode bc_R_modulo 180 = .ok (.invokevirtual 48, 3) := by decide +kernel
theorem dc_R_modulo_183 : decode bc_R_modulo 183 = .ok (.ifCond .ne 6, 3) := by decide +kernel
theorem dc_R_modulo_186 : decode bc_R_modulo 186 = .ok (.goto 23, 3) := by decide +kernel
theorem dc_R_modulo_189 : decode bc_R_modulo 189 = .ok (.aload_n 0, 1) := by decide +kernel
theorem dc_R_modulo_190 : decode bc_R_modulo 190 = .ok (.bipush 16, 2) := by decide +kernel
theorem dc_R_modulo_192 : decode bc_R_modulo 192 = .ok (.bipush 18, 2) := by decide +kernel
theorem dc_R_modulo_194 : decode bc_R_modulo 194 = .ok (.bipush 20, 2) := by decide +kernel
theorem dc_R_modulo_196 : decode bc_R_modulo 196 = .ok (.invokevirtual 86, 3) := by decide +kernel
theorem dc_R_modulo_199 : decode bc_R_modulo 199 = .ok (.aload_n 0, 1) := by decide +kernel
theorem dc_R_modulo_200 : decode bc_R_modulo 200 = .ok (.bipush 18, 2) := by decide +kernel
theorem dc_R_modulo_202 : decode bc_R_modulo 202 = .ok (.bipush 16, 2) := by decide +kernel
theorem dc_R_modulo_204 : decode bc_R_modulo 204 = .ok (.bipush 19, 2) := by decide +kernel
theorem dc_R_modulo_206 : decode bc_R_modulo 206 = .ok (.invokevirtual 114, 3) := by decide +kernel
theorem dc_R_modulo_209 : decode bc_R_modulo 209 = .ok (.iinc 5 (-1), 3) := by decide +kernel
theorem dc_R_modulo_212 : decode bc_R_modulo 212 = .ok (.goto (-61), 3) := by decide +kernel
theorem dc_R_modulo_215 : decode bc_R_modulo 215 = .ok (.aload_n 0, 1) := by decide +kernel
theorem dc_R_modulo_216 : decode bc_R_modulo 216 = .ok (.iload_n 1, 1) := by decide +kernel
theorem dc_R_modulo_217 : decode bc_R_modulo 217 = .ok (.bipush 18, 2) := by decide +kernel
theorem dc_R_modulo_219 : decode bc_R_modulo 219 = .ok (.iconst 0, 1) := by decide +kernel
theorem dc_R_modulo_220 : decode bc_R_modulo 220 = .ok (.invokevirtual 75, 3) := by decide +kernel
theorem dc_R_modulo_223 : decode bc_R_modulo 223 = .ok (.ireturn, 1) := by decide +kernel
theorem dc_R_compare_0 : decode bc_R_compare 0 = .ok (.iload_n 1, 1) := by decide +kernel
theorem dc_R_compare_1 : decode bc_R_compare 1 = .ok (.invokestatic 67, 3) := by decide +kernel
theorem dc_R_compare_4 : decode bc_R_compare 4 = .ok (.ifCond .eq 10, 3) := by decide +kernel
theorem dc_R_compare_7 : decode bc_R_compare 7 = .ok (.iload_n 2, 1) := by decide +kernel
theorem dc_R_compare_8 : decode bc_R_compare 8 = .ok (.invokestatic 67, 3) := by decide +kernel
theorem dc_R_compare_11 : decode bc_R_compare 11 = .ok (.ifCond .ne 6, 3) := by decide +kernel
theorem dc_R_compare_14 : decode bc_R_compare 14 = .ok (.bipush (-2), 2) := by decide +kernel
theorem dc_R_compare_16 : decode bc_R_compare 16 = .ok (.ireturn, 1) := by decide +kernel
theorem dc_R_compare_17 : decode bc_R_compare 17 = .ok (.aload_n 0, 1) := by decide +kernel
theorem dc_R_compare_18 : decode bc_R_compare 18 = .ok (.getfield 17, 3) := by decide +kernel
theorem dc_R_compare_21 : decode bc_R_compare 21 = .ok (.iload_n 1, 1) := by decide +kernel
theorem dc_R_compare_22 : decode bc_R_compare 22 = .ok (.baload, 1) := by decide +kernel
theorem dc_R_compare_23 : decode bc_R_compare 23 = .ok (.aload_n 0, 1) := by decide +kernel
theorem dc_R_compare_24 : decode bc_R_compare 24 = .ok (.getfield 17, 3) := by decide +kernel
theorem dc_R_compare_27 : decode bc_R_compare 27 = .ok (.iload_n 2, 1) := by decide +kernel
theorem dc_R_compare_28 : decode bc_R_compare 28 = .ok (.baload, 1) := by decide +kernel
theorem dc_R_compare_29 : decode bc_R_compare 29 = .ok (.if_icmp .eq 18, 3) := by decide +kernel
theorem dc_R_compare_32 : decode bc_R_compare 32 = .ok (.aload_n 0, 1) := by decide +kernel
theorem dc_R_compare_33 : decode bc_R_compare 33 = .ok (.getfield 17, 3) := by decide +kernel
theorem dc_R_compare_36 : decode bc_R_compare 36 = .ok (.iload_n 1, 1) := by decide +kernel
theorem dc_R_compare_37 : decode bc_R_compare 37 = .ok (.baload, 1) := by decide +kernel
theorem dc_R_compare_38 : decode bc_R_compare 38 = .ok (.ifCond .eq 7, 3) := by decide +kernel
theorem dc_R_compare_41 : decode bc_R_compare 41 = .ok (.iconst (-1), 1) := by decide +kernel
theorem dc_R_compare_42 : decode bc_R_compare 42 = .ok (.goto 4, 3) := by decide +kernel
theorem dc_R_compare_45 : decode bc_R_compare 45 = .ok (.iconst 1, 1) := by decide +kernel
theorem dc_R_compare_46 : decode bc_R_compare 46 = .ok (.ireturn, 1) := by decide +kernel
theorem dc_R_compare_47 : decode bc_R_compare 47 = .ok (.aload_n 0, 1) := by decide +kernel
theorem dc_R_compare_48 : decode bc_R_compare 48 = .ok (.getfield 17, 3) := by decide +kernel
theorem dc_R_compare_51 : decode bc_R_compare 51 = .ok (.iload_n 1, 1) := by decide +kernel
theorem dc_R_compare_52 : decode bc_R_compare 52 = .ok (.baload, 1) := by decide +kernel
theorem dc_R_compare_53 : decode bc_R_compare 53 = .ok (.ifCond .eq 12, 3) := by decide +kernel
theorem dc_R_compare_56 : decode bc_R_compare 56 = .ok (.aload_n 0, 1) := by decide +kernel
theorem dc_R_compare_57 : decode bc_R_compare 57 = .ok (.iload_n 2, 1) := by decide +kernel
theorem dc_R_compare_58 : decode bc_R_compare 58 = .ok (.iload_n 1, 1) := by decide +kernel
theorem dc_R_compare_59 : decode bc_R_compare 59 = .ok (.invokevirtual 54, 3) := by decide +kernel
theorem dc_R_compare_62 : decode bc_R_compare 62 = .ok (.goto 9, 3) := by decide +kernel
theorem dc_R_compare_65 : decode bc_R_compare 65 = .ok (.aload_n 0, 1) := by decide +kernel
theorem dc_R_compare_66 : decode bc_R_compare 66 = .ok (.iload_n 1, 1) := by decide +kernel
theorem dc_R_compare_67 : decode bc_R_compare 67 = .ok (.iload_n 2, 1) := by decide +kernel
theorem dc_R_compare_68 : decode bc_R_compare 68 = .ok (.invokevirtual 54, 3) := by decide +kernel
theorem dc_R_compare_71 : decode bc_R_compare 71 = .ok (.ireturn, 1) := by decide +kernel
theorem dc_R_sign_0 : decode bc_R_sign 0 = .ok (.iload_n 1, 1) := by decide +kernel
theorem dc_R_sign_1 : decode bc_R_sign 1 = .ok (.invokestatic 67, 3) := by decide +kernel
theorem dc_R_sign_4 : decode bc_R_sign 4 = .ok (.ifCond .ne 8, 3) := by decide +kernel
theorem dc_R_sign_7 : decode bc_R_sign 7 = .ok (.bipush (-2), 2) := by decide +kernel
theorem dc_R_sign_9 : decode bc_R_sign 9 = .ok (.goto 30, 3) := by decide +kernel
theorem dc_R_sign_12 : decode bc_R_sign 12 = .ok (.aload_n 0, 1) := by decide +kernel
theorem dc_R_sign_13 : decode bc_R_sign 13 = .ok (.getfield 17, 3) := by decide +kernel
theorem dc_R_sign_16 : decode bc_R_sign 16 = .ok (.iload_n 1, 1) := by decide +kernel
theorem dc_R_sign_17 : decode bc_R_sign 17 = .ok (.baload, 1) := by decide +kernel
theorem dc_R_sign_18 : decode bc_R_sign 18 = .ok (.ifCond .eq 7, 3) := by decide +kernel
theorem dc_R_sign_21 : decode bc_R_sign 21 = .ok (.iconst (-1), 1) := by decide +kernel
theorem dc_R_sign_22 : decode bc_R_sign 22 = .ok (.goto 17, 3) := by decide +kernel
theorem dc_R_sign_25 : decode bc_R_sign 25 = .ok (.aload_n 0, 1) := by decide +kernel
theorem dc_R_sign_26 : decode bc_R_sign 26 = .ok (.getfield 14, 3) := by decide +kernel
theorem dc_R_sign_29 : decode bc_R_sign 29 = .ok (.iload_n 1, 1) := by decide +kernel
theorem dc_R_sign_30 : decode bc_R_sign 30 = .ok (.iaload, 1) := by decide +kernel
theorem dc_R_sign_31 : decode bc_R_sign 31 = .ok (.ifCond .le 7, 3) := by decide +kernel
theorem dc_R_sign_34 : decode bc_R_sign 34 = .ok (.iconst 1, 1) := by decide +kernel
theorem dc_R_sign_35 : decode bc_R_sign 35 = .ok (.goto 4, 3) := by decide +kernel
theorem dc_R_sign_38 : decode bc_R_sign 38 = .ok (.iconst 0, 1) := by decide +kernel
theorem dc_R_sign_39 : decode bc_R_sign 39 = .ok (.ireturn, 1) := by decide +kernel
theorem dc_R_length_0 : decode bc_R_length 0 = .ok (.iload_n 1, 1) := by decide +kernel
theorem dc_R_length_1 : decode bc_R_length 1 = .ok (.invokestatic 67, 3) := by decide +kernel
theorem dc_R_length_4 : decode bc_R_length 4 = .ok (.ifCond .ne 5, 3) := by decide +kernel
theorem dc_R_length_7 : decode bc_R_length 7 = .ok (.iconst (-1), 1) := by decide +kernel
theorem dc_R_length_8 : decode bc_R_length 8 = .ok (.ireturn, 1) := by decide +kernel
theorem dc_R_length_9 : decode bc_R_length 9 = .ok (.aload_n 0, 1) := by decide +kernel
theorem dc_R_length_10 : decode bc_R_length 10 = .ok (.getfield 17, 3) := by decide +kernel
theorem dc_R_length_13 : decode bc_R_length 13 = .ok (.iload_n 1, 1) := by decide +kernel
theorem dc_R_length_14 : decode bc_R_length 14 = .ok (.baload, 1) := by decide +kernel
theorem dc_R_length_15 : decode bc_R_length 15 = .ok (.ifCond .eq 7, 3) := by decide +kernel
theorem dc_R_length_18 : decode bc_R_length 18 = .ok (.iconst 1, 1) := by decide +kernel
theorem dc_R_length_19 : decode bc_R_length 19 = .ok (.goto 4, 3) := by decide +kernel
theorem dc_R_length_22 : decode bc_R_length 22 = .ok (.iconst 0, 1) := by decide +kernel
theorem dc_R_length_23 : decode bc_R_length 23 = .ok (.istore_n 2, 1) := by decide +kernel
theorem dc_R_length_24 : decode bc_R_length 24 = .ok (.bipush 16, 2) := by decide +kernel
theorem dc_R_length_26 : decode bc_R_length 26 = .ok (.aload_n 0, 1) := by decide +kernel
theorem dc_R_length_27 : decode bc_R_length 27 = .ok (.getfield 14, 3) := by decide +kernel
theorem dc_R_length_30 : decode bc_R_length 30 = .ok (.iload_n 1, 1) := by decide +kernel
theorem dc_R_length_31 : decode bc_R_length 31 = .ok (.iaload, 1) := by decide +kernel
theorem dc_R_length_32 : decode bc_R_length 32 = .ok (.imul, 1) := by decide +kernel
theorem dc_R_length_33 : decode bc_R_length 33 = .ok (.istore_n 3, 1) := by decide +kernel
theorem dc_R_length_34 : decode bc_R_length 34 = .ok (.iload_n 3, 1) := by decide +kernel
theorem dc_R_length_35 : decode bc_R_length 35 = .ok (.ifCond .le 21, 3) := by decide +kernel
theorem dc_R_length_38 : decode bc_R_length 38 = .ok (.aload_n 0, 1) := by decide +kernel
theorem dc_R_length_39 : decode bc_R_length 39 = .ok (.iload_n 1, 1) := by decide +kernel
theorem dc_R_length_40 : decode bc_R_length 40 = .ok (.iload_n 3, 1) := by decide +kernel
theorem dc_R_length_41 : decode bc_R_length 41 = .ok (.iconst 1, 1) := by decide +kernel
theorem dc_R_length_42 : decode bc_R_length 42 = .ok (.isub, 1) := by decide +kernel
theorem dc_R_length_43 : decode bc_R_length 43 = .ok (.invokevirtual 108, 3) := by decide +kernel
theorem dc_R_length_46 : decode bc_R_length 46 = .ok (.iload_n 2, 1) := by decide +kernel
theorem dc_R_length_47 : decode bc_R_length 47 = .ok (.if_icmp .ne 9, 3) := by decide +kernel
theorem dc_R_length_50 : decode bc_R_length 50 = .ok (.iinc 3 (-1), 3) := by decide +kernel
theorem dc_R_length_53 : decode bc_R_length 53 = .ok (.goto (-19), 3) := by decide +kernel
theorem dc_R_length_56 : decode bc_R_length 56 = .ok (.iload_n 3, 1) := by decide +kernel
theorem dc_R_length_57 : decode bc_R_length 57 = .ok (.ireturn, 1) := by decide +kernel
theorem dc_R_ones_0 : decode bc_R_ones 0 = .ok (.iload_n 1, 1) := by decide +kernel
theorem dc_R_ones_1 : decode bc_R_ones 1 = .ok (.invokestatic 67, 3) := by decide +kernel
theorem dc_R_ones_4 : decode bc_R_ones 4 = .ok (.ifCond .ne 5, 3) := by decide +kernel
theorem dc_R_ones_7 : decode bc_R_ones 7 = .ok (.iconst (-1), 1) := by decide +kernel
theorem dc_R_ones_8 : decode bc_R_ones 8 = .ok (.ireturn, 1) := by decide +kernel
theorem dc_R_ones_9 : decode bc_R_ones 9 = .ok (.aload_n 0, 1) := by decide +kernel
theorem dc_R_ones_10 : decode bc_R_ones 10 = .ok (.getfield 17, 3) := by decide +kernel
theorem dc_R_ones_13 : decode bc_R_ones 13 = .ok (.iload_n 1, 1) := by decide +kernel
theorem dc_R_ones_14 : decode bc_R_ones 14 = .ok (.baload, 1) := by decide +kernel
theorem dc_R_ones_15 : decode bc_R_ones 15 = .ok (.ifCond .eq 7, 3) := by decide +kernel
theorem dc_R_ones_18 : decode bc_R_ones 18 = .ok (.iconst 1, 1) := by decide +kernel
theorem dc_R_ones_19 : decode bc_R_ones 19 = .ok (.goto 4, 3) := by decide +kernel
theorem dc_R_ones_22 : decode bc_R_ones 22 = .ok (.iconst 0, 1) := by decide +kernel
theorem dc_R_ones_23 : decode bc_R_ones 23 = .ok (.istore_n 2, 1) := by decide +kernel
theorem dc_R_ones_24 : decode bc_R_ones 24 = .ok (.iconst 0, 1) := by decide +kernel
theorem dc_R_ones_25 : decode bc_R_ones 25 = .ok (.istore_n 3, 1) := by decide +kernel
theorem dc_R_ones_26 : decode bc_R_ones 26 = .ok (.aload_n 0, 1) := by decide +kernel
theorem dc_R_ones_27 : decode bc_R_ones 27 = .ok (.iload_n 1, 1) := by decide +kernel
theorem dc_R_ones_28 : decode bc_R_ones 28 = .ok (.invokevirtual 93, 3) := by decide +kernel
theorem dc_R_ones_31 : decode bc_R_ones 31 = .ok (.istore 4, 2) := by decide +kernel
theorem dc_R_ones_33 : decode bc_R_ones 33 = .ok (.iconst 0, 1) := by decide +kernel
theorem dc_R_ones_34 : decode bc_R_ones 34 = .ok (.istore 5, 2) := by decide +kernel
theorem dc_R_ones_36 : decode bc_R_ones 36 = .ok (.iload 5, 2) := by decide +kernel
theorem dc_R_ones_38 : decode bc_R_ones 38 = .ok (.aload_n 0, 1) := by decide +kernel
theorem dc_R_ones_39 : decode bc_R_ones 39 = .ok (.getfield 14, 3) := by decide +kernel
theorem dc_R_ones_42 : decode bc_R_ones 42 = .ok (.iload_n 1, 1) := by decide +kernel
theorem dc_R_ones_43 : decode bc_R_ones 43 = .ok (.iaload, 1) := by decide +kernel
theorem dc_R_ones_44 : decode bc_R_ones 44 = .ok (.if_icmp .ge 58, 3) := by decide +kernel
theorem dc_R_ones_47 : decode bc_R_ones 47 = .ok (.aload_n 0, 1) := by decide +kernel
theorem dc_R_ones_48 : decode bc_R_ones 48 = .ok (.iload_n 1, 1) := by decide +kernel
theorem dc_R_ones_49 : decode bc_R_ones 49 = .ok (.iload 5, 2) := by decide +kernel
theorem dc_R_ones_51 : decode bc_R_ones 51 = .ok (.iload 4, 2) := by decide +kernel
theorem dc_R_ones_53 : decode bc_R_ones 53 = .ok (.invokevirtual 100, 3) := by decide +kernel
theorem dc_R_ones_56 : decode bc_R_ones 56 = .ok (.ldc 36, 2) := by decide +kernel
theorem dc_R_ones_58 : decode bc_R_ones 58 = .ok (.iand, 1) := by decide +kernel
theorem dc_R_ones_59 : decode bc_R_ones 59 = .ok (.istore 6, 2) := by decide +kernel
theorem dc_R_ones_61 : decode bc_R_ones 61 = .ok (.iconst 0, 1) := by decide +kernel
theorem dc_R_ones_62 : decode bc_R_ones 62 = .ok (.istore 7, 2) := by decide +kernel
theorem dc_R_ones_64 : decode bc_R_ones 64 = .ok (.iload 7, 2) := by decide +kernel
theorem dc_R_ones_66 : decode bc_R_ones 66 = .ok (.bipush 16, 2) := by decide +kernel
theorem dc_R_ones_68 : decode bc_R_ones 68 = .ok (.if_icmp .ge 28, 3) := by decide +kernel
theorem dc_R_ones_71 : decode bc_R_ones 71 = .ok (.iload_n 3, 1) := by decide +kernel
theorem dc_R_ones_72 : decode bc_R_ones 72 = .ok (.iload 6, 2) := by decide +kernel
theorem dc_R_ones_74 : decode bc_R_ones 74 = .ok (.iload 7, 2) := by decide +kernel
theorem dc_R_ones_76 : decode bc_R_ones 76 = .ok (.ishr, 1) := by decide +kernel
theorem dc_R_ones_77 : decode bc_R_ones 77 = .ok (.iconst 1, 1) := by decide +kernel
theorem dc_R_ones_78 : decode bc_R_ones 78 = .ok (.iand, 1) := by decide +kernel
theorem dc_R_ones_79 : decode bc_R_ones 79 = .ok (.iload_n 2, 1) := by decide +kernel
theorem dc_R_ones_80 : decode bc_R_ones 80 = .ok (.if_icmp .eq 7, 3) := by decide +kernel
theorem dc_R_ones_83 : decode bc_R_ones 83 = .ok (.iconst 1, 1) := by decide +kernel
theorem dc_R_ones_84 : decode bc_R_ones 84 = .ok (.goto 4, 3) := by decide +kernel
theorem dc_R_ones_87 : decode bc_R_ones 87 = .ok (.iconst 0, 1) := by decide +kernel
theorem dc_R_ones_88 : decode bc_R_ones 88 = .ok (.iadd, 1) := by decide +kernel
theorem dc_R_ones_89 : decode bc_R_ones 89 = .ok (.istore_n 3, 1) := by decide +kernel
theorem dc_R_ones_90 : decode bc_R_ones 90 = .ok (.iinc 7 1, 3) := by decide +kernel
theorem dc_R_ones_93 : decode bc_R_ones 93 = .ok (.goto (-29), 3) := by decide +kernel
theorem dc_R_ones_96 : decode bc_R_ones 96 = .ok (.iinc 5 1, 3) := by decide +kernel
theorem dc_R_ones_99 : decode bc_R_ones 99 = .ok (.goto (-63), 3) := by decide +kernel
theorem dc_R_ones_102 : decode bc_R_ones 102 = .ok (.iload_n 3, 1) := by decide +kernel
theorem dc_R_ones_103 : decode bc_R_ones 103 = .ok (.ireturn, 1) := by decide +kernel
theorem dc_R_lowest_0 : decode bc_R_lowest 0 = .ok (.iload_n 1, 1) := by decide +kernel
theorem dc_R_lowest_1 : decode bc_R_lowest 1 = .ok (.invokestatic 67, 3) := by decide +kernel
theorem dc_R_lowest_4 : decode bc_R_lowest 4 = .ok (.ifCond .eq 12, 3) := by decide +kernel
theorem dc_R_lowest_7 : decode bc_R_lowest 7 = .ok (.aload_n 0, 1) := by decide +kernel
theorem dc_R_lowest_8 : decode bc_R_lowest 8 = .ok (.getfield 14, 3) := by decide +kernel
theorem dc_R_lowest_11 : decode bc_R_lowest 11 = .ok (.iload_n 1, 1) := by decide +kernel
theorem dc_R_lowest_12 : decode bc_R_lowest 12 = .ok (.iaload, 1) := by decide +kernel
theorem dc_R_lowest_13 : decode bc_R_lowest 13 = .ok (.ifCond .ne 5, 3) := by decide +kernel
theorem dc_R_lowest_16 : decode bc_R_lowest 16 = .ok (.iconst (-1), 1) := by decide +kernel
theorem dc_R_lowest_17 : decode bc_R_lowest 17 = .ok (.ireturn, 1) := by decide +kernel
theorem dc_R_lowest_18 : decode bc_R_lowest 18 = .ok (.iconst 0, 1) := by decide +kernel
theorem dc_R_lowest_19 : decode bc_R_lowest 19 = .ok (.istore_n 2, 1) := by decide +kernel
theorem dc_R_lowest_20 : decode bc_R_lowest 20 = .ok (.aload_n 0, 1) := by decide +kernel
theorem dc_R_lowest_21 : decode bc_R_lowest 21 = .ok (.iload_n 1, 1) := by decide +kernel
theorem dc_R_lowest_22 : decode bc_R_lowest 22 = .ok (.iload_n 2, 1) := by decide +kernel
theorem dc_R_lowest_23 : decode bc_R_lowest 23 = .ok (.invokevirtual 48, 3) := by decide +kernel
theorem dc_R_lowest_26 : decode bc_R_lowest 26 = .ok (.ifCond .ne 9, 3) := by decide +kernel
theorem dc_R_lowest_29 : decode bc_R_lowest 29 = .ok (.iinc 2 1, 3) := by decide +kernel
theorem dc_R_lowest_32 : decode bc_R_lowest 32 = .ok (.goto (-12), 3) := by decide +kernel
theorem dc_R_lowest_35 : decode bc_R_lowest 35 = .ok (.iload_n 2, 1) := by decide +kernel
theorem dc_R_lowest_36 : decode bc_R_lowest 36 = .ok (.ireturn, 1) := by decide +kernel
theorem dc_R_word_0 : decode bc_R_word 0 = .ok (.iload_n 1, 1) := by decide +kernel
theorem dc_R_word_1 : decode bc_R_word 1 = .ok (.invokestatic 67, 3) := by decide +kernel
theorem dc_R_word_4 : decode bc_R_word 4 = .ok (.ifCond .eq 7, 3) := by decide +kernel
theorem dc_R_word_7 : decode bc_R_word 7 = .ok (.iload_n 2, 1) := by decide +kernel
theorem dc_R_word_8 : decode bc_R_word 8 = .ok (.ifCond .ge 5, 3) := by decide +kernel
theorem dc_R_word_11 : decode bc_R_word 11 = .ok (.iconst 0, 1) := by decide +kernel
theorem dc_R_word_12 : decode bc_R_word 12 = .ok (.ireturn, 1) := by decide +kernel
theorem dc_R_word_13 : decode bc_R_word 13 = .ok (.iload_n 2, 1) := by decide +kernel
theorem dc_R_word_14 : decode bc_R_word 14 = .ok (.sipush 2048, 3) := by decide +kernel
theorem dc_R_word_17 : decode bc_R_word 17 = .ok (.if_icmp .lt 18, 3) := by decide +kernel
theorem dc_R_word_20 : decode bc_R_word 20 = .ok (.aload_n 0, 1) := by decide +kernel
theorem dc_R_word_21 : decode bc_R_word 21 = .ok (.getfield 17, 3) := by decide +kernel
theorem dc_R_word_24 : decode bc_R_word 24 = .ok (.iload_n 1, 1) := by decide +kernel
theorem dc_R_word_25 : decode bc_R_word 25 = .ok (.baload, 1) := by decide +kernel
theorem dc_R_word_26 : decode bc_R_word 26 = .ok (.ifCond .eq 7, 3) := by decide +kernel
theorem dc_R_word_29 : decode bc_R_word 29 = .ok (.iconst (-1), 1) := by decide +kernel
theorem dc_R_word_30 : decode bc_R_word 30 = .ok (.goto 4, 3) := by decide +kernel
theorem dc_R_word_33 : decode bc_R_word 33 = .ok (.iconst 0, 1) := by decide +kernel
theorem dc_R_word_34 : decode bc_R_word 34 = .ok (.ireturn, 1) := by decide +kernel
theorem dc_R_word_35 : decode bc_R_word 35 = .ok (.aload_n 0, 1) := by decide +kernel
theorem dc_R_word_36 : decode bc_R_word 36 = .ok (.iload_n 1, 1) := by decide +kernel
theorem dc_R_word_37 : decode bc_R_word 37 = .ok (.invokevirtual 93, 3) := by decide +kernel
theorem dc_R_word_40 : decode bc_R_word 40 = .ok (.istore_n 3, 1) := by decide +kernel
theorem dc_R_word_41 : decode bc_R_word 41 = .ok (.aload_n 0, 1) := by decide +kernel
theorem dc_R_word_42 : decode bc_R_word 42 = .ok (.iload_n 1, 1) := by decide +kernel
theorem dc_R_word_43 : decode bc_R_word 43 = .ok (.iconst 2, 1) := by decide +kernel
theorem dc_R_word_44 : decode bc_R_word 44 = .ok (.iload_n 2, 1) := by decide +kernel
theorem dc_R_word_45 : decode bc_R_word 45 = .ok (.imul, 1) := by decide +kernel
theorem dc_R_word_46 : decode bc_R_word 46 = .ok (.iload_n 3, 1) := by decide +kernel
theorem dc_R_word_47 : decode bc_R_word 47 = .ok (.invokevirtual 100, 3) := by decide +kernel
theorem dc_R_word_50 : decode bc_R_word 50 = .ok (.ldc 36, 2) := by decide +kernel
theorem dc_R_word_52 : decode bc_R_word 52 = .ok (.iand, 1) := by decide +kernel
theorem dc_R_word_53 : decode bc_R_word 53 = .ok (.aload_n 0, 1) := by decide +kernel
theorem dc_R_word_54 : decode bc_R_word 54 = .ok (.iload_n 1, 1) := by decide +kernel
theorem dc_R_word_55 : decode bc_R_word 55 = .ok (.iconst 2, 1) := by decide +kernel
theorem dc_R_word_56 : decode bc_R_word 56 = .ok (.iload_n 2, 1) := by decide +kernel
theorem dc_R_word_57 : decode bc_R_word 57 = .ok (.imul, 1) := by decide +kernel
theorem dc_R_word_58 : decode bc_R_word 58 = .ok (.iconst 1, 1) := by decide +kernel
theorem dc_R_word_59 : decode bc_R_word 59 = .ok (.iadd, 1) := by decide +kernel
theorem dc_R_word_60 : decode bc_R_word 60 = .ok (.iload_n 3, 1) := by decide +kernel
theorem dc_R_word_61 : decode bc_R_word 61 = .ok (.invokevirtual 100, 3) := by decide +kernel
theorem dc_R_word_64 : decode bc_R_word 64 = .ok (.bipush 16, 2) := by decide +kernel
theorem dc_R_word_66 : decode bc_R_word 66 = .ok (.ishl, 1) := by decide +kernel
theorem dc_R_word_67 : decode bc_R_word 67 = .ok (.ior, 1) := by decide +kernel
theorem dc_R_word_68 : decode bc_R_word 68 = .ok (.ireturn, 1) := by decide +kernel
